def tini (I : Nat → Nat → Int32) : Nat → Nat → Int32 := up2 (up2 (up2 (up2 (up2 (up2 (up2 (up2 (up2 (up2 (up2 I 172 28 (I 172 27)) 172 27 (nI 0)) 172 29 (nI 0)) 172 34 (nI 0)) 172 35 (-1)) 172 13 (nI 0)) 172 14 (nI 0)) 172 15 (nI 0)) 172 16 (nI 0)) 172 17 (nI 0)) 172 18 (nI 0)
def tF (b j : Nat) : Prop := (b = 172 ∧ ((27 ≤ j ∧ j ≤ 35) ∨ (13 ≤ j ∧ j ≤ 18))) ∨ (180 ≤ b ∧ b ≤ 186 ∧ ¬ (b = 182 ∧ j = 0))
theorem lMt (b j : Nat) (h : lM b j) : tF b j := by unfold lM at h; unfold tF; omega
theorem aPt2 (b j : Nat) (h : aP b j) : tF b j := lMt b j (aPl b j h)
theorem tini_F {I : Nat → Nat → Int32} : Fx tF I (tini I) := Fx.up (Fx.up (Fx.up (Fx.up (Fx.up (Fx.up (Fx.up (Fx.up (Fx.up (Fx.up (Fx.up (Fx.rf _ _) (Or.inl ⟨rfl, by omega⟩)) (Or.inl ⟨rfl, by omega⟩)) (Or.inl ⟨rfl, by omega⟩)) (Or.inl ⟨rfl, by omega⟩)) (Or.inl ⟨rfl, by omega⟩)) (Or.inl ⟨rfl, by omega⟩)) (Or.inl ⟨rfl, by omega⟩)) (Or.inl ⟨rfl, by omega⟩)) (Or.inl ⟨rfl, by omega⟩)) (Or.inl ⟨rfl, by omega⟩)) (Or.inl ⟨rfl, by omega⟩)
/-- what the model holds, its EVENTS as far as they count -/
def MTx (I : Nat → Nat → Int32) (V : VT) : Prop :=
  I 172 2 = nI (vE V) ∧ I 172 3 = nI (vA V) ∧ I 172 5 = vt V ∧ I 172 4 = nI (vB V) ∧ (∀ e, e < vE V → REL I 173 (22 * e) (vev V e)) ∧
  (∀ a e, a < vA V → e < 10 → I 177 (10 * a + e) = vmk V a e ∧ I 178 (10 * a + e) = vgo V a e ∧ I 179 (10 * a + e) = vgi V a e) ∧
  (∀ k, k < vB V → I 174 k = vbn V k) ∧ (∀ k, k ≤ vB V → I 175 k = nI (off (vts V) k)) ∧
  (∀ k, k < vB V → ∀ i q, (vts V k)[i]? = some q → I 176 (off (vts V) k + i) = encM q)
/-- all of the draft is taken over -/
def CPY (Ib I1 : Nat → Nat → Int32) (B m : Nat) : Prop := (∀ x, x < 220 → I1 173 x = Ib 180 x) ∧ (∀ x, x < B → I1 174 x = Ib 181 x) ∧ (∀ x, x ≤ B → I1 175 x = Ib 182 x) ∧ (∀ x, x < m → I1 176 x = Ib 183 x) ∧ (∀ x, x < 80 → I1 177 x = Ib 184 x ∧ I1 178 x = Ib 185 x ∧ I1 179 x = Ib 186 x)
theorem MTx_of {I Ib I1 : Nat → Nat → Int32} {V : VT} (hW : WV V) (h : MDr I V) (hI : ∀ b j, 180 ≤ b → Ib b j = I b j) (hC : CPY Ib I1 (vB V) (off (vts V) (vB V))) (h2 : I1 172 2 = I 172 13) (h3 : I1 172 3 = I 172 14) (h4 : I1 172 4 = I 172 15) (h5 : I1 172 5 = I 172 16) : MTx I1 V := by
  obtain ⟨a0, a1, a2, a3, a4, a5, a6, a7, a8, a9⟩ := h
  obtain ⟨c0, c1, c2, c3, c4⟩ := hC
  have hE := hW.1
  have hA := hW.2.1
  refine ⟨h2.trans a0, h3.trans a1, h5.trans a3, h4.trans a2, fun e he => ?_, fun a e ha he => ?_, fun k hk => by rw [c1 k hk, hI _ _ (by omega)]; exact a7 k hk, fun k hk => by rw [c2 k hk, hI _ _ (by omega)]; exact a8 k hk, fun k hk x q hq => ?_⟩
  · have hr := a5 e he
    have h8 := WE_3 (hW.2.2.2.2.1 e he)
    refine ⟨fun k hk => by rw [c0 _ (by omega), hI _ _ (by omega)]; exact hr.1 k hk, fun z k hk => ?_⟩
    rcases h8 with y | y
    · rw [c0 _ (by omega), c0 _ (by omega), hI _ _ (by omega), hI _ _ (by omega)]; exact hr.2 z k hk
    · exact absurd z y
  · obtain ⟨d1, d2, d3⟩ := c4 (10 * a + e) (by omega)
    have := a6 a e (by omega) he
    rw [if_pos ha, if_pos ha, if_pos ha] at this
    rw [d1, d2, d3, hI _ _ (by omega), hI _ _ (by omega), hI _ _ (by omega)]
    exact this
  · have hx : x < (vts V k).length := (List.getElem?_eq_some_iff.mp hq).1
    have hm := off_mono (vts V) (j := k + 1) (k := vB V) (by omega)
    rw [off] at hm
    rw [c3 _ (by omega), hI _ _ (by omega)]
    exact a9 k hk x q hq
def tG (b j : Nat) : Prop := tF b j ∨ (b = 172 ∧ (j ≤ 5 ∨ j = 44)) ∨ (173 ≤ b ∧ b ≤ 179)
def mtP (I : Nat → Nat → Int32) (L : Nat → Nat → Int64) (R : Nat → Nat → Option Nat) (res : RS (Nat × VT)) : Option Value → Wd → Prop := fun r w' => r = some (.int (aTx res)) ∧ ∃ I', w' = wd I' L R ∧ I' 172 27 = nI 0 ∧ Fx tG I I' ∧ (∀ e, res = .inl e → Fx tF I I' ∧ I' 172 34 = nI e.1 ∧ I' 172 35 = nI e.2) ∧ (∀ x, res = .inr x → MTx I' x.2 ∧ I' 172 34 = nI 0 ∧ I' 172 35 = -1 ∧ I' 172 1 = nI 1 ∧ I' 172 44 = nI 0)
theorem tFG (b j : Nat) (h : tF b j) : tG b j := Or.inl h
theorem pLn_er {T : Nat → TK} {N : Nat} {V : VT} {tt : Bool} {i : Nat} {e : Nat × Nat} (hT : TN T N) (hE : vE V ≤ 10) (hi : i < N) (hV : LI V i) (h : pLn T V tt i = .inl e) : 1 ≤ e.1 ∧ e.1 ≤ 4 := by
  unfold pLn at h
  rcases bnd_er h with z | ⟨a, z, h⟩
  · unfold pLn0 at z
    split at z
    · split at z
      · rcases bnd_er z with y | ⟨y, y2, z⟩
        · exact pEv_er y
        · cases z
      · cases z; exact ⟨(by show 1 ≤ 4; omega), (by show 4 ≤ 4; omega)⟩
    · split at z
      · split at z
        · cases z; exact ⟨(by show 1 ≤ 3; omega), (by show 3 ≤ 4; omega)⟩
        · unfold pTie at z
          split at z
          · cases z; exact ⟨(by show 1 ≤ 1; omega), (by show 1 ≤ 4; omega)⟩
          · cases z
      · split at z
        · split at z
          · exact pBon_er hT hE hi z
          · cases z; exact ⟨(by show 1 ≤ 4; omega), (by show 4 ≤ 4; omega)⟩
        · split at z
          · split at z
            · cases z
            · cases z; exact ⟨(by show 1 ≤ 4; omega), (by show 4 ≤ 4; omega)⟩
          · split at z
            · unfold pMk at z
              rcases bnd_er z with y | ⟨y, y2, z⟩
              · unfold pCell at y
                rcases bnd_er y with x | ⟨x, x2, y⟩
                · exact pNum_er x
                rcases bnd_er y with x | ⟨x, x2, y⟩
                · exact pNum_er x
                · cases y
              rcases bnd_er z with y | ⟨y, y2, z⟩
              · exact pNum_er y
              · cases z
            · split at z
              · unfold pGn at z
                rcases bnd_er z with y | ⟨y, y2, z⟩
                · unfold pCell at y
                  rcases bnd_er y with x | ⟨x, x2, y⟩
                  · exact pNum_er x
                  rcases bnd_er y with x | ⟨x, x2, y⟩
                  · exact pNum_er x
                  · cases y
                rcases bnd_er z with y | ⟨y, y2, z⟩
                · exact pNum_er y
                rcases bnd_er z with y | ⟨y, y2, z⟩
                · exact pTake_er y
                rcases bnd_er z with y | ⟨y, y2, z⟩
                · exact pNum_er y
                · cases z
              · cases z; exact ⟨(by show 1 ≤ 1; omega), (by show 1 ≤ 4; omega)⟩
  · rcases bnd_er h with z | ⟨b, z, h⟩
    · exact pTake_er z
    · cases h
set_option maxRecDepth 20000 in
theorem d_textQ (l : Launch) (G : GT) {I : Nat → Nat → Int32} {L : Nat → Nat → Int64} {R : Nat → Nat → Option Nat} (hL : Lay R) (b0 : BT) (hb0 : b0.1 ≤ 1200) (hbb : ∀ j, j < b0.1 → isBy (b0.2 j)) (hT : TP I 172 27 187 b0) (h182 : I 182 0 = nI 0) : Mt l G mX12_text (31) 0 0 [.ref (ra G 172)] (wd I L R) (mtP I L R (pTxt b0)) := by
  refine mt_of (own := RX12) (by decide) rfl rfl (fun Z C P B => ?_)
  have D := @dc_of _ _ dX12_text
  have hby : BY b0.2 b0.1 := ⟨hb0, hbb⟩
  obtain ⟨N, hNT⟩ := NT_ex b0.2 b0.1
  have hN := TN_tok hb0 hNT
  have hN1 := hN.1
  have L0 : ∀ (Ib I1 : Nat → Nat → Int32) (V : VT) (ln : Nat) (x2 : Option Value), pTxt b0 = .inr (ln, V) → (MTx (up2 I1 172 44 (nI 0)) V) → Fx tG I I1 → I1 172 27 = nI 0 → I1 172 34 = nI 0 → I1 172 35 = -1 → I1 172 1 = nI 1 → J Z (0, 0) 331 [some (.ref (ra G 172)), some (.int (nI ln)), x2] [] (wd I1 L R) := by
    intro Ib I1 V ln x2 hres hM hF h27 h34 h35 h1
    refine j_aload_n C (D 188 rfl) rfl ?_
    refine j_iconst C (v := nI 0) (D 189 rfl) rfl ?_
    refine j_puti C f_X12_311 (lit (kd := 12) (n := 48) rfl) rfl rfl (D 190 rfl) ?_
    refine j_iload_n C (D 191 rfl) rfl ?_
    exact j_iret C P rfl (D 192 rfl) ⟨Nat.le_refl _, Nat.le_refl _⟩ ⟨by rw [hres]; rfl, _, rfl, by rw [up2_i (by omega)]; exact h27, Fx.up hF (Or.inr (Or.inl ⟨rfl, by omega⟩)), fun e h => (by rw [hres] at h; cases h), fun x h => by
  rw [hres] at h
  cases h
  exact ⟨hM, by rw [up2_i (by omega)]; exact h34, by rw [up2_i (by omega)]; exact h35, by rw [up2_i (by omega)]; exact h1, up2_same _ _ _ _⟩⟩
  have L283 : ∀ (Ib I0 : Nat → Nat → Int32) (V : VT) (ln : Nat) m k (I1 : Nat → Nat → Int32), k + m = 80 → pTxt b0 = .inr (ln, V) → WV V → off (vts V) (vB V) ≤ 1200 → MDr I0 V → (∀ b j, 180 ≤ b → Ib b j = I0 b j) → Ib 172 2 = I0 172 13 → Ib 172 3 = I0 172 14 → Ib 172 4 = I0 172 15 → Ib 172 5 = I0 172 16 → Ib 172 17 = I0 172 17 → Fx tG I Ib → Ib 172 27 = nI 0 → Ib 172 34 = nI 0 → Ib 172 35 = -1 → Ib 172 1 = nI 1 → Fx (fun b _ => 173 ≤ b ∧ b ≤ 179) Ib I1 → (∀ x, x < 220 → I1 173 x = Ib 180 x) → (∀ x, x < vB V → I1 174 x = Ib 181 x) → (∀ x, x ≤ vB V → I1 175 x = Ib 182 x) → (∀ x, x < off (vts V) (vB V) → I1 176 x = Ib 183 x) → (∀ x, x < k → I1 177 x = Ib 184 x ∧ I1 178 x = Ib 185 x ∧ I1 179 x = Ib 186 x) → J Z (0, 0) 283 [some (.ref (ra G 172)), some (.int (nI ln)), some (.int (nI k))] [] (wd I1 L R) := by
    intro Ib I0 V ln m
    induction m with
    | zero =>
      intro k I1 hk hres hW ho hD hI h2 h3 h4 h5 h17 hG h27 h34 h35 h1 hF p0 p1 p2 p3 hc
      have hB4 := hW.2.2.1
      have hF1 : ∀ b j, ¬ (173 ≤ b ∧ b ≤ 179) → I1 b j = Ib b j := fun b j z => hF b j z
      refine j_iload_n C (D 159 rfl) rfl ?_
      refine j_bipush C (v := nI 80) (D 160 rfl) rfl ?_
      refine j_icmp_ge C  331 (D 161 rfl) (by decide) (fun h286 => ?_) (fun h286 => absurd h286 (fun z => z ((nle (by omega) (by omega)).mpr (by omega))))
      exact L0 Ib I1 V ln _ hres (MTx_of (I1 := up2 I1 172 44 (nI 0)) hW hD hI ⟨fun x hx => by rw [up2_i (by omega)]; exact p0 x hx, fun x hx => by rw [up2_i (by omega)]; exact p1 x hx, fun x hx => by rw [up2_i (by omega)]; exact p2 x hx, fun x hx => by rw [up2_i (by omega)]; exact p3 x hx, fun x hx => by rw [up2_i (by omega), up2_i (by omega), up2_i (by omega)]; exact hc x (by omega)⟩ (by rw [up2_i (by omega), hF1 _ _ (by omega)]; exact h2) (by rw [up2_i (by omega), hF1 _ _ (by omega)]; exact h3) (by rw [up2_i (by omega), hF1 _ _ (by omega)]; exact h4) (by rw [up2_i (by omega), hF1 _ _ (by omega)]; exact h5)) (hG.tr (hF.mo (fun b j z => Or.inr (Or.inr z)))) (by rw [hF1 _ _ (by omega)]; exact h27) (by rw [hF1 _ _ (by omega)]; exact h34) (by rw [hF1 _ _ (by omega)]; exact h35) (by rw [hF1 _ _ (by omega)]; exact h1)
    | succ m ih =>
      intro k I1 hk hres hW ho hD hI h2 h3 h4 h5 h17 hG h27 h34 h35 h1 hF p0 p1 p2 p3 hc
      have hB4 := hW.2.2.1
      have hF1 : ∀ b j, ¬ (173 ≤ b ∧ b ≤ 179) → I1 b j = Ib b j := fun b j z => hF b j z
      refine j_iload_n C (D 159 rfl) rfl ?_
      refine j_bipush C (v := nI 80) (D 160 rfl) rfl ?_
      refine j_icmp_ge C  331 (D 161 rfl) (by decide) (fun h286 => absurd h286 (fun z => by rw [nle (by omega) (by omega)] at z; omega)) (fun h286 => ?_)
      refine j_aload_n C (D 162 rfl) rfl ?_
      refine j_getr C f_X12_22 (lit (kd := 12) (n := 48) rfl) rfl rfl (hL _ _ _ rfl) (D 163 rfl) ?_
      refine j_iload_n C (D 164 rfl) rfl ?_
      refine j_aload_n C (D 165 rfl) rfl ?_
      refine j_getr C f_X12_43 (lit (kd := 12) (n := 48) rfl) rfl rfl (hL _ _ _ rfl) (D 166 rfl) ?_
      refine j_iload_n C (D 167 rfl) rfl ?_
      refine j_iald C (lit (kd := 20) (n := 80) rfl) (ix_n (by omega) (by decide)) (D 168 rfl) ?_
      rw [hF1 184 k (by omega)]
      refine j_iast C (lit (kd := 20) (n := 80) rfl) (ix_n (by omega) (by decide)) (D 169 rfl) ?_
      refine j_aload_n C (D 170 rfl) rfl ?_
      refine j_getr C f_X12_25 (lit (kd := 12) (n := 48) rfl) rfl rfl (hL _ _ _ rfl) (D 171 rfl) ?_
      refine j_iload_n C (D 172 rfl) rfl ?_
      refine j_aload_n C (D 173 rfl) rfl ?_
      refine j_getr C f_X12_46 (lit (kd := 12) (n := 48) rfl) rfl rfl (hL _ _ _ rfl) (D 174 rfl) ?_
      refine j_iload_n C (D 175 rfl) rfl ?_
      refine j_iald C (lit (kd := 20) (n := 80) rfl) (ix_n (by omega) (by decide)) (D 176 rfl) ?_
      rw [up2_i (by omega), hF1 185 k (by omega)]
      refine j_iast C (lit (kd := 20) (n := 80) rfl) (ix_n (by omega) (by decide)) (D 177 rfl) ?_
      refine j_aload_n C (D 178 rfl) rfl ?_
      refine j_getr C f_X12_28 (lit (kd := 12) (n := 48) rfl) rfl rfl (hL _ _ _ rfl) (D 179 rfl) ?_
      refine j_iload_n C (D 180 rfl) rfl ?_
      refine j_aload_n C (D 181 rfl) rfl ?_
      refine j_getr C f_X12_49 (lit (kd := 12) (n := 48) rfl) rfl rfl (hL _ _ _ rfl) (D 182 rfl) ?_
      refine j_iload_n C (D 183 rfl) rfl ?_
      refine j_iald C (lit (kd := 20) (n := 80) rfl) (ix_n (by omega) (by decide)) (D 184 rfl) ?_
      rw [up2_i (by omega), up2_i (by omega), hF1 186 k (by omega)]
      refine j_iast C (lit (kd := 20) (n := 80) rfl) (ix_n (by omega) (by decide)) (D 185 rfl) ?_
      first | refine j_iinc1 C (D 186 rfl) rfl rfl ?_ | refine j_iinc C (D 186 rfl) rfl rfl rfl ?_
      refine j_goto C 283 (D 187 rfl) (by decide) ?_
      exact ih (k + 1) _ (by omega) hres hW ho hD hI h2 h3 h4 h5 h17 hG h27 h34 h35 h1 (Fx.up (Fx.up (Fx.up hF ⟨by omega, by omega⟩) ⟨by omega, by omega⟩) ⟨by omega, by omega⟩) (fun x hx => by rw [up2_i (by omega), up2_i (by omega), up2_i (by omega)]; exact p0 x hx) (fun x hx => by rw [up2_i (by omega), up2_i (by omega), up2_i (by omega)]; exact p1 x hx) (fun x hx => by rw [up2_i (by omega), up2_i (by omega), up2_i (by omega)]; exact p2 x hx) (fun x hx => by rw [up2_i (by omega), up2_i (by omega), up2_i (by omega)]; exact p3 x hx) (fun x hx => by
        by_cases q : x = k
        · rw [q, up2_i (by omega), up2_i (by omega), up2_same, up2_i (by omega), up2_same, up2_same]; exact ⟨rfl, rfl, rfl⟩
        · rw [up2_i (by omega), up2_i (by omega), up2_i (by omega), up2_i (by omega), up2_i (by omega), up2_i (by omega), up2_i (by omega), up2_i (by omega), up2_i (by omega)]; exact hc x (by omega))
  have L255 : ∀ (Ib I0 : Nat → Nat → Int32) (V : VT) (ln : Nat) m k (I1 : Nat → Nat → Int32), k + m = off (vts V) (vB V) → pTxt b0 = .inr (ln, V) → WV V → off (vts V) (vB V) ≤ 1200 → MDr I0 V → (∀ b j, 180 ≤ b → Ib b j = I0 b j) → Ib 172 2 = I0 172 13 → Ib 172 3 = I0 172 14 → Ib 172 4 = I0 172 15 → Ib 172 5 = I0 172 16 → Ib 172 17 = I0 172 17 → Fx tG I Ib → Ib 172 27 = nI 0 → Ib 172 34 = nI 0 → Ib 172 35 = -1 → Ib 172 1 = nI 1 → Fx (fun b _ => 173 ≤ b ∧ b ≤ 179) Ib I1 → (∀ x, x < 220 → I1 173 x = Ib 180 x) → (∀ x, x < vB V → I1 174 x = Ib 181 x) → (∀ x, x ≤ vB V → I1 175 x = Ib 182 x) → (∀ x, x < k → I1 176 x = Ib 183 x) → J Z (0, 0) 255 [some (.ref (ra G 172)), some (.int (nI ln)), some (.int (nI k))] [] (wd I1 L R) := by
    intro Ib I0 V ln m
    induction m with
    | zero =>
      intro k I1 hk hres hW ho hD hI h2 h3 h4 h5 h17 hG h27 h34 h35 h1 hF p0 p1 p2 hc
      have hB4 := hW.2.2.1
      have hF1 : ∀ b j, ¬ (173 ≤ b ∧ b ≤ 179) → I1 b j = Ib b j := fun b j z => hF b j z
      refine j_iload_n C (D 143 rfl) rfl ?_
      refine j_aload_n C (D 144 rfl) rfl ?_
      refine j_geti C f_X12_212 (lit (kd := 12) (n := 48) rfl) rfl rfl (D 145 rfl) ?_
      rw [hF1 _ _ (by omega), h17, hD.2.2.2.2.1]
      refine j_icmp_ge C  281 (D 146 rfl) (by decide) (fun h260 => ?_) (fun h260 => absurd h260 (fun z => z ((nle (by omega) (by omega)).mpr (by omega))))
      refine j_iconst C (v := nI 0) (D 157 rfl) rfl ?_
      refine j_istore_n C (D 158 rfl) rfl ?_
      exact L283 Ib I0 V ln 80 0 I1 rfl hres hW ho hD hI h2 h3 h4 h5 h17 hG h27 h34 h35 h1 hF p0 p1 p2 (fun x hx => hc x (by omega)) (fun x hx => by omega)
    | succ m ih =>
      intro k I1 hk hres hW ho hD hI h2 h3 h4 h5 h17 hG h27 h34 h35 h1 hF p0 p1 p2 hc
      have hB4 := hW.2.2.1
      have hF1 : ∀ b j, ¬ (173 ≤ b ∧ b ≤ 179) → I1 b j = Ib b j := fun b j z => hF b j z
      refine j_iload_n C (D 143 rfl) rfl ?_
      refine j_aload_n C (D 144 rfl) rfl ?_
      refine j_geti C f_X12_212 (lit (kd := 12) (n := 48) rfl) rfl rfl (D 145 rfl) ?_
      rw [hF1 _ _ (by omega), h17, hD.2.2.2.2.1]
      refine j_icmp_ge C  281 (D 146 rfl) (by decide) (fun h260 => absurd h260 (fun z => by rw [nle (by omega) (by omega)] at z; omega)) (fun h260 => ?_)
      refine j_aload_n C (D 147 rfl) rfl ?_
      refine j_getr C f_X12_19 (lit (kd := 12) (n := 48) rfl) rfl rfl (hL _ _ _ rfl) (D 148 rfl) ?_
      refine j_iload_n C (D 149 rfl) rfl ?_
      refine j_aload_n C (D 150 rfl) rfl ?_
      refine j_getr C f_X12_40 (lit (kd := 12) (n := 48) rfl) rfl rfl (hL _ _ _ rfl) (D 151 rfl) ?_
      refine j_iload_n C (D 152 rfl) rfl ?_
      refine j_iald C (lit (kd := 20) (n := 1300) rfl) (ix_n (by omega) (by decide)) (D 153 rfl) ?_
      rw [hF1 183 k (by omega)]
      refine j_iast C (lit (kd := 20) (n := 1300) rfl) (ix_n (by omega) (by decide)) (D 154 rfl) ?_
      first | refine j_iinc1 C (D 155 rfl) rfl rfl ?_ | refine j_iinc C (D 155 rfl) rfl rfl rfl ?_
      refine j_goto C 255 (D 156 rfl) (by decide) ?_
      exact ih (k + 1) _ (by omega) hres hW ho hD hI h2 h3 h4 h5 h17 hG h27 h34 h35 h1 (Fx.up hF ⟨by omega, by omega⟩) (fun x hx => by rw [up2_i (by omega)]; exact p0 x hx) (fun x hx => by rw [up2_i (by omega)]; exact p1 x hx) (fun x hx => by rw [up2_i (by omega)]; exact p2 x hx) (fun x hx => by
        by_cases q : x = k
        · rw [q, up2_same]
        · rw [up2_i (by omega)]; exact hc x (by omega))
  have L227 : ∀ (Ib I0 : Nat → Nat → Int32) (V : VT) (ln : Nat) m k (I1 : Nat → Nat → Int32), k + m = vB V + 1 → pTxt b0 = .inr (ln, V) → WV V → off (vts V) (vB V) ≤ 1200 → MDr I0 V → (∀ b j, 180 ≤ b → Ib b j = I0 b j) → Ib 172 2 = I0 172 13 → Ib 172 3 = I0 172 14 → Ib 172 4 = I0 172 15 → Ib 172 5 = I0 172 16 → Ib 172 17 = I0 172 17 → Fx tG I Ib → Ib 172 27 = nI 0 → Ib 172 34 = nI 0 → Ib 172 35 = -1 → Ib 172 1 = nI 1 → Fx (fun b _ => 173 ≤ b ∧ b ≤ 179) Ib I1 → (∀ x, x < 220 → I1 173 x = Ib 180 x) → (∀ x, x < vB V → I1 174 x = Ib 181 x) → (∀ x, x < k → I1 175 x = Ib 182 x) → J Z (0, 0) 227 [some (.ref (ra G 172)), some (.int (nI ln)), some (.int (nI k))] [] (wd I1 L R) := by
    intro Ib I0 V ln m
    induction m with
    | zero =>
      intro k I1 hk hres hW ho hD hI h2 h3 h4 h5 h17 hG h27 h34 h35 h1 hF p0 p1 hc
      have hB4 := hW.2.2.1
      have hF1 : ∀ b j, ¬ (173 ≤ b ∧ b ≤ 179) → I1 b j = Ib b j := fun b j z => hF b j z
      refine j_iload_n C (D 127 rfl) rfl ?_
      refine j_aload_n C (D 128 rfl) rfl ?_
      refine j_geti C f_X12_306 (lit (kd := 12) (n := 48) rfl) rfl rfl (D 129 rfl) ?_
      rw [hF1 _ _ (by omega), h4, hD.2.2.1]
      refine j_icmp_gt C  253 (D 130 rfl) (by decide) (fun h232 => ?_) (fun h232 => absurd h232 (fun z => z ((nlt (by omega) (by omega)).mpr (by omega))))
      refine j_iconst C (v := nI 0) (D 141 rfl) rfl ?_
      refine j_istore_n C (D 142 rfl) rfl ?_
      exact L255 Ib I0 V ln _ 0 I1 (Nat.zero_add _) hres hW ho hD hI h2 h3 h4 h5 h17 hG h27 h34 h35 h1 hF p0 p1 (fun x hx => hc x (by omega)) (fun x hx => by omega)
    | succ m ih =>
      intro k I1 hk hres hW ho hD hI h2 h3 h4 h5 h17 hG h27 h34 h35 h1 hF p0 p1 hc
      have hB4 := hW.2.2.1
      have hF1 : ∀ b j, ¬ (173 ≤ b ∧ b ≤ 179) → I1 b j = Ib b j := fun b j z => hF b j z
      refine j_iload_n C (D 127 rfl) rfl ?_
      refine j_aload_n C (D 128 rfl) rfl ?_
      refine j_geti C f_X12_306 (lit (kd := 12) (n := 48) rfl) rfl rfl (D 129 rfl) ?_
      rw [hF1 _ _ (by omega), h4, hD.2.2.1]
      refine j_icmp_gt C  253 (D 130 rfl) (by decide) (fun h232 => absurd h232 (fun z => by rw [nlt (by omega) (by omega)] at z; omega)) (fun h232 => ?_)
      refine j_aload_n C (D 131 rfl) rfl ?_
      refine j_getr C f_X12_16 (lit (kd := 12) (n := 48) rfl) rfl rfl (hL _ _ _ rfl) (D 132 rfl) ?_
      refine j_iload_n C (D 133 rfl) rfl ?_
      refine j_aload_n C (D 134 rfl) rfl ?_
      refine j_getr C f_X12_37 (lit (kd := 12) (n := 48) rfl) rfl rfl (hL _ _ _ rfl) (D 135 rfl) ?_
      refine j_iload_n C (D 136 rfl) rfl ?_
      refine j_iald C (lit (kd := 20) (n := 5) rfl) (ix_n (by omega) (by decide)) (D 137 rfl) ?_
      rw [hF1 182 k (by omega)]
      refine j_iast C (lit (kd := 20) (n := 5) rfl) (ix_n (by omega) (by decide)) (D 138 rfl) ?_
      first | refine j_iinc1 C (D 139 rfl) rfl rfl ?_ | refine j_iinc C (D 139 rfl) rfl rfl rfl ?_
      refine j_goto C 227 (D 140 rfl) (by decide) ?_
      exact ih (k + 1) _ (by omega) hres hW ho hD hI h2 h3 h4 h5 h17 hG h27 h34 h35 h1 (Fx.up hF ⟨by omega, by omega⟩) (fun x hx => by rw [up2_i (by omega)]; exact p0 x hx) (fun x hx => by rw [up2_i (by omega)]; exact p1 x hx) (fun x hx => by
        by_cases q : x = k
        · rw [q, up2_same]
        · rw [up2_i (by omega)]; exact hc x (by omega))
  have L199 : ∀ (Ib I0 : Nat → Nat → Int32) (V : VT) (ln : Nat) m k (I1 : Nat → Nat → Int32), k + m = vB V → pTxt b0 = .inr (ln, V) → WV V → off (vts V) (vB V) ≤ 1200 → MDr I0 V → (∀ b j, 180 ≤ b → Ib b j = I0 b j) → Ib 172 2 = I0 172 13 → Ib 172 3 = I0 172 14 → Ib 172 4 = I0 172 15 → Ib 172 5 = I0 172 16 → Ib 172 17 = I0 172 17 → Fx tG I Ib → Ib 172 27 = nI 0 → Ib 172 34 = nI 0 → Ib 172 35 = -1 → Ib 172 1 = nI 1 → Fx (fun b _ => 173 ≤ b ∧ b ≤ 179) Ib I1 → (∀ x, x < 220 → I1 173 x = Ib 180 x) → (∀ x, x < k → I1 174 x = Ib 181 x) → J Z (0, 0) 199 [some (.ref (ra G 172)), some (.int (nI ln)), some (.int (nI k))] [] (wd I1 L R) := by
    intro Ib I0 V ln m
    induction m with
    | zero =>
      intro k I1 hk hres hW ho hD hI h2 h3 h4 h5 h17 hG h27 h34 h35 h1 hF p0 hc
      have hB4 := hW.2.2.1
      have hF1 : ∀ b j, ¬ (173 ≤ b ∧ b ≤ 179) → I1 b j = Ib b j := fun b j z => hF b j z
      refine j_iload_n C (D 111 rfl) rfl ?_
      refine j_aload_n C (D 112 rfl) rfl ?_
      refine j_geti C f_X12_306 (lit (kd := 12) (n := 48) rfl) rfl rfl (D 113 rfl) ?_
      rw [hF1 _ _ (by omega), h4, hD.2.2.1]
      refine j_icmp_ge C  225 (D 114 rfl) (by decide) (fun h204 => ?_) (fun h204 => absurd h204 (fun z => z ((nle (by omega) (by omega)).mpr (by omega))))
      refine j_iconst C (v := nI 0) (D 125 rfl) rfl ?_
      refine j_istore_n C (D 126 rfl) rfl ?_
      exact L227 Ib I0 V ln _ 0 I1 (Nat.zero_add _) hres hW ho hD hI h2 h3 h4 h5 h17 hG h27 h34 h35 h1 hF p0 (fun x hx => hc x (by omega)) (fun x hx => by omega)
    | succ m ih =>
      intro k I1 hk hres hW ho hD hI h2 h3 h4 h5 h17 hG h27 h34 h35 h1 hF p0 hc
      have hB4 := hW.2.2.1
      have hF1 : ∀ b j, ¬ (173 ≤ b ∧ b ≤ 179) → I1 b j = Ib b j := fun b j z => hF b j z
      refine j_iload_n C (D 111 rfl) rfl ?_
      refine j_aload_n C (D 112 rfl) rfl ?_
      refine j_geti C f_X12_306 (lit (kd := 12) (n := 48) rfl) rfl rfl (D 113 rfl) ?_
      rw [hF1 _ _ (by omega), h4, hD.2.2.1]
      refine j_icmp_ge C  225 (D 114 rfl) (by decide) (fun h204 => absurd h204 (fun z => by rw [nle (by omega) (by omega)] at z; omega)) (fun h204 => ?_)
      refine j_aload_n C (D 115 rfl) rfl ?_
      refine j_getr C f_X12_13 (lit (kd := 12) (n := 48) rfl) rfl rfl (hL _ _ _ rfl) (D 116 rfl) ?_
      refine j_iload_n C (D 117 rfl) rfl ?_
      refine j_aload_n C (D 118 rfl) rfl ?_
      refine j_getr C f_X12_34 (lit (kd := 12) (n := 48) rfl) rfl rfl (hL _ _ _ rfl) (D 119 rfl) ?_
      refine j_iload_n C (D 120 rfl) rfl ?_
      refine j_iald C (lit (kd := 20) (n := 4) rfl) (ix_n (by omega) (by decide)) (D 121 rfl) ?_
      rw [hF1 181 k (by omega)]
      refine j_iast C (lit (kd := 20) (n := 4) rfl) (ix_n (by omega) (by decide)) (D 122 rfl) ?_
      first | refine j_iinc1 C (D 123 rfl) rfl rfl ?_ | refine j_iinc C (D 123 rfl) rfl rfl rfl ?_
      refine j_goto C 199 (D 124 rfl) (by decide) ?_
      exact ih (k + 1) _ (by omega) hres hW ho hD hI h2 h3 h4 h5 h17 hG h27 h34 h35 h1 (Fx.up hF ⟨by omega, by omega⟩) (fun x hx => by rw [up2_i (by omega)]; exact p0 x hx) (fun x hx => by
        by_cases q : x = k
        · rw [q, up2_same]
        · rw [up2_i (by omega)]; exact hc x (by omega))
  have L172 : ∀ (Ib I0 : Nat → Nat → Int32) (V : VT) (ln : Nat) m k (I1 : Nat → Nat → Int32), k + m = 220 → pTxt b0 = .inr (ln, V) → WV V → off (vts V) (vB V) ≤ 1200 → MDr I0 V → (∀ b j, 180 ≤ b → Ib b j = I0 b j) → Ib 172 2 = I0 172 13 → Ib 172 3 = I0 172 14 → Ib 172 4 = I0 172 15 → Ib 172 5 = I0 172 16 → Ib 172 17 = I0 172 17 → Fx tG I Ib → Ib 172 27 = nI 0 → Ib 172 34 = nI 0 → Ib 172 35 = -1 → Ib 172 1 = nI 1 → Fx (fun b _ => 173 ≤ b ∧ b ≤ 179) Ib I1 → (∀ x, x < k → I1 173 x = Ib 180 x) → J Z (0, 0) 172 [some (.ref (ra G 172)), some (.int (nI ln)), some (.int (nI k))] [] (wd I1 L R) := by
    intro Ib I0 V ln m
    induction m with
    | zero =>
      intro k I1 hk hres hW ho hD hI h2 h3 h4 h5 h17 hG h27 h34 h35 h1 hF  hc
      have hB4 := hW.2.2.1
      have hF1 : ∀ b j, ¬ (173 ≤ b ∧ b ≤ 179) → I1 b j = Ib b j := fun b j z => hF b j z
      refine j_iload_n C (D 96 rfl) rfl ?_
      refine j_sipush C (v := nI 220) (D 97 rfl) rfl ?_
      refine j_icmp_ge C  197 (D 98 rfl) (by decide) (fun h176 => ?_) (fun h176 => absurd h176 (fun z => z ((nle (by omega) (by omega)).mpr (by omega))))
      refine j_iconst C (v := nI 0) (D 109 rfl) rfl ?_
      refine j_istore_n C (D 110 rfl) rfl ?_
      exact L199 Ib I0 V ln _ 0 I1 (Nat.zero_add _) hres hW ho hD hI h2 h3 h4 h5 h17 hG h27 h34 h35 h1 hF (fun x hx => hc x (by omega)) (fun x hx => by omega)
    | succ m ih =>
      intro k I1 hk hres hW ho hD hI h2 h3 h4 h5 h17 hG h27 h34 h35 h1 hF  hc
      have hB4 := hW.2.2.1
      have hF1 : ∀ b j, ¬ (173 ≤ b ∧ b ≤ 179) → I1 b j = Ib b j := fun b j z => hF b j z
      refine j_iload_n C (D 96 rfl) rfl ?_
      refine j_sipush C (v := nI 220) (D 97 rfl) rfl ?_
      refine j_icmp_ge C  197 (D 98 rfl) (by decide) (fun h176 => absurd h176 (fun z => by rw [nle (by omega) (by omega)] at z; omega)) (fun h176 => ?_)
      refine j_aload_n C (D 99 rfl) rfl ?_
      refine j_getr C f_X12_9 (lit (kd := 12) (n := 48) rfl) rfl rfl (hL _ _ _ rfl) (D 100 rfl) ?_
      refine j_iload_n C (D 101 rfl) rfl ?_
      refine j_aload_n C (D 102 rfl) rfl ?_
      refine j_getr C f_X12_31 (lit (kd := 12) (n := 48) rfl) rfl rfl (hL _ _ _ rfl) (D 103 rfl) ?_
      refine j_iload_n C (D 104 rfl) rfl ?_
      refine j_iald C (lit (kd := 20) (n := 220) rfl) (ix_n (by omega) (by decide)) (D 105 rfl) ?_
      rw [hF1 180 k (by omega)]
      refine j_iast C (lit (kd := 20) (n := 220) rfl) (ix_n (by omega) (by decide)) (D 106 rfl) ?_
      first | refine j_iinc1 C (D 107 rfl) rfl rfl ?_ | refine j_iinc C (D 107 rfl) rfl rfl rfl ?_
      refine j_goto C 172 (D 108 rfl) (by decide) ?_
      exact ih (k + 1) _ (by omega) hres hW ho hD hI h2 h3 h4 h5 h17 hG h27 h34 h35 h1 (Fx.up hF ⟨by omega, by omega⟩)  (fun x hx => by
        by_cases q : x = k
        · rw [q, up2_same]
        · rw [up2_i (by omega)]; exact hc x (by omega))
  have G133 : ∀ (V : VT) (ln : Nat) (I1 : Nat → Nat → Int32) (x2 : Option Value), pTxt b0 = .inr (ln, V) → WV V → off (vts V) (vB V) ≤ 1200 → MDr I1 V → Fx tF I I1 → I1 172 27 = nI 0 → I1 172 34 = nI 0 → I1 172 35 = -1 → J Z (0, 0) 133 [some (.ref (ra G 172)), some (.int (nI ln)), x2] [] (wd I1 L R) := by
    intro V ln I1 x2 hres hW ho hD hF h27 h34 h35
    refine j_aload_n C (D 75 rfl) rfl ?_
    refine j_iconst C (v := nI 1) (D 76 rfl) rfl ?_
    refine j_putz C f_X12_297 (lit (kd := 12) (n := 48) rfl) rfl rfl (D 77 rfl) (by first | exact Or.inl rfl | exact Or.inr rfl) ?_
    refine j_aload_n C (D 78 rfl) rfl ?_
    refine j_aload_n C (D 79 rfl) rfl ?_
    refine j_geti C f_X12_184 (lit (kd := 12) (n := 48) rfl) rfl rfl (D 80 rfl) ?_
    rw [up2_i (by omega)]
    refine j_puti C f_X12_300 (lit (kd := 12) (n := 48) rfl) rfl rfl (D 81 rfl) ?_
    refine j_aload_n C (D 82 rfl) rfl ?_
    refine j_aload_n C (D 83 rfl) rfl ?_
    refine j_geti C f_X12_286 (lit (kd := 12) (n := 48) rfl) rfl rfl (D 84 rfl) ?_
    rw [up2_i (by omega), up2_i (by omega)]
    refine j_puti C f_X12_303 (lit (kd := 12) (n := 48) rfl) rfl rfl (D 85 rfl) ?_
    refine j_aload_n C (D 86 rfl) rfl ?_
    refine j_aload_n C (D 87 rfl) rfl ?_
    refine j_geti C f_X12_255 (lit (kd := 12) (n := 48) rfl) rfl rfl (D 88 rfl) ?_
    rw [up2_i (by omega), up2_i (by omega), up2_i (by omega)]
    refine j_puti C f_X12_306 (lit (kd := 12) (n := 48) rfl) rfl rfl (D 89 rfl) ?_
    refine j_aload_n C (D 90 rfl) rfl ?_
    refine j_aload_n C (D 91 rfl) rfl ?_
    refine j_geti C f_X12_268 (lit (kd := 12) (n := 48) rfl) rfl rfl (D 92 rfl) ?_
    rw [up2_i (by omega), up2_i (by omega), up2_i (by omega), up2_i (by omega)]
    refine j_puti C f_X12_309 (lit (kd := 12) (n := 48) rfl) rfl rfl (D 93 rfl) ?_
    refine j_iconst C (v := nI 0) (D 94 rfl) rfl ?_
    refine j_istore_n C (D 95 rfl) rfl ?_
    exact L172 _ I1 V ln 220 0 _ rfl hres hW ho hD (fun b j h => by rw [up2_i (by omega), up2_i (by omega), up2_i (by omega), up2_i (by omega), up2_i (by omega)]) (by rw [up2_i (by omega), up2_i (by omega), up2_i (by omega), up2_same]) (by rw [up2_i (by omega), up2_i (by omega), up2_same]) (by rw [up2_i (by omega), up2_same]) (by rw [up2_same]) (by rw [up2_i (by omega), up2_i (by omega), up2_i (by omega), up2_i (by omega), up2_i (by omega)]) (Fx.up (Fx.up (Fx.up (Fx.up (Fx.up (hF.mo tFG) (Or.inr (Or.inl ⟨rfl, by omega⟩))) (Or.inr (Or.inl ⟨rfl, by omega⟩))) (Or.inr (Or.inl ⟨rfl, by omega⟩))) (Or.inr (Or.inl ⟨rfl, by omega⟩))) (Or.inr (Or.inl ⟨rfl, by omega⟩))) (by rw [up2_i (by omega), up2_i (by omega), up2_i (by omega), up2_i (by omega), up2_i (by omega)]; exact h27) (by rw [up2_i (by omega), up2_i (by omega), up2_i (by omega), up2_i (by omega), up2_i (by omega)]; exact h34) (by rw [up2_i (by omega), up2_i (by omega), up2_i (by omega), up2_i (by omega), up2_i (by omega)]; exact h35) (by rw [up2_i (by omega), up2_i (by omega), up2_i (by omega), up2_i (by omega), up2_same]) (Fx.rf _ _) (fun x hx => by omega)
  have D99 : ∀ (e : Nat × Nat) (I1 : Nat → Nat → Int32) (x1 x2 : Option Value), pTxt b0 = .inl e → Fx tF I I1 → I1 172 27 = nI 0 → I1 172 34 = nI e.1 → I1 172 35 = nI e.2 → ¬ I1 172 34 = 0 → J Z (0, 0) 99 [some (.ref (ra G 172)), x1, x2] [] (wd I1 L R) := by
    intro e I1 x1 x2 hres hF h27 e0 e1 hd
    refine j_aload_n C (D 60 rfl) rfl ?_
    refine j_cVp C B k_X12_106 (rc_obj C (lit (kd := 12) (n := 48) rfl) rfl rfl) (d_goodF _ _ hL hd) rfl rfl rfl rfl ⟨Nat.le_refl _, Nat.le_refl _⟩ (D 61 rfl) ?_
    refine j_if_eq C  123 (D 62 rfl) (by decide) (fun h103 => ?_) (fun h103 => absurd h103 (fun z => z rfl))
    refine j_aload_n C (D 70 rfl) rfl ?_
    refine j_cVp C B k_X12_106 (rc_obj C (lit (kd := 12) (n := 48) rfl) rfl rfl) (d_goodF _ _ hL hd) rfl rfl rfl rfl ⟨Nat.le_refl _, Nat.le_refl _⟩ (D 71 rfl) ?_
    refine j_if_ne C  133 (D 72 rfl) (by decide) (fun h127 => absurd h127 (fun z => z rfl)) (fun h127 => ?_)
    refine j_bipush C (v := (-4)) (D 73 rfl) (by decide) ?_
    exact j_iret C P rfl (D 74 rfl) ⟨Nat.le_refl _, Nat.le_refl _⟩ ⟨by rw [hres]; rfl, I1, rfl, h27, hF.mo tFG, fun e2 h => by rw [hres] at h; cases h; exact ⟨hF, e0, e1⟩, fun x h => by rw [hres] at h; cases h⟩
  have L99 : ∀ mm ln V tt i (I1 : Nat → Nat → Int32) (x2 : Option Value), ln + mm = 1200 → N ≤ i + mm → i ≤ N → MS I1 b0.2 b0.1 i → I1 172 34 = nI 0 → I1 172 35 = -1 → I1 172 27 = nI 0 → MDr I1 V → I1 172 18 = b2 (tt = true) → LI V i → Fx tF I I1 → pAll (tok b0.2 b0.1) mm V tt ln i = pTxt b0 → J Z (0, 0) 99 [some (.ref (ra G 172)), some (.int (nI ln)), x2] [] (wd I1 L R) := by
    intro mm
    induction mm with
    | zero =>
      intro ln V tt i I1 x2 hln hNm hiN hS hg h35 h27 hD h18 hLI hF he
      have h41 : (tok b0.2 b0.1 i).1 = 41 := (hN.2.1 i hiN).mpr (by omega)
      refine j_aload_n C (D 60 rfl) rfl ?_
      refine j_cVp C B k_X12_106 (rc_obj C (lit (kd := 12) (n := 48) rfl) rfl rfl) (d_goodT _ _ hL hg) rfl rfl rfl rfl ⟨Nat.le_refl _, Nat.le_refl _⟩ (D 61 rfl) ?_
      refine j_if_eq C  123 (D 62 rfl) (by decide) (fun h103 => absurd h103 (by decide)) (fun h103 => ?_)
      refine j_aload_n C (D 63 rfl) rfl ?_
      refine j_geti C f_X12_123 (lit (kd := 12) (n := 48) rfl) rfl rfl (D 64 rfl) ?_
      refine j_if_eq C  123 (D 65 rfl) (by decide) (fun h110 => ?_) (fun h110 => absurd h110 (fun z => z ((MS_0 hS).mpr h41)))
      refine j_aload_n C (D 70 rfl) rfl ?_
      refine j_cVp C B k_X12_106 (rc_obj C (lit (kd := 12) (n := 48) rfl) rfl rfl) (d_goodT _ _ hL hg) rfl rfl rfl rfl ⟨Nat.le_refl _, Nat.le_refl _⟩ (D 71 rfl) ?_
      refine j_if_ne C  133 (D 72 rfl) (by decide) (fun h127 => ?_) (fun h127 => absurd h127 (by decide))
      exact G133 V ln I1 _ (by rw [← he, pAll]) hLI.1 (by have := hLI.2; omega) hD hF h27 hg h35
    | succ mm ih =>
      intro ln V tt i I1 x2 hln hNm hiN hS hg h35 h27 hD h18 hLI hF he
      refine j_aload_n C (D 60 rfl) rfl ?_
      refine j_cVp C B k_X12_106 (rc_obj C (lit (kd := 12) (n := 48) rfl) rfl rfl) (d_goodT _ _ hL hg) rfl rfl rfl rfl ⟨Nat.le_refl _, Nat.le_refl _⟩ (D 61 rfl) ?_
      refine j_if_eq C  123 (D 62 rfl) (by decide) (fun h103 => absurd h103 (by decide)) (fun h103 => ?_)
      refine j_aload_n C (D 63 rfl) rfl ?_
      refine j_geti C f_X12_123 (lit (kd := 12) (n := 48) rfl) rfl rfl (D 64 rfl) ?_
      refine j_if_eq C  123 (D 65 rfl) (by decide) (fun h110 => ?_) (fun h110 => ?_)
      · refine j_aload_n C (D 70 rfl) rfl ?_
        refine j_cVp C B k_X12_106 (rc_obj C (lit (kd := 12) (n := 48) rfl) rfl rfl) (d_goodT _ _ hL hg) rfl rfl rfl rfl ⟨Nat.le_refl _, Nat.le_refl _⟩ (D 71 rfl) ?_
        refine j_if_ne C  133 (D 72 rfl) (by decide) (fun h127 => ?_) (fun h127 => absurd h127 (by decide))
        exact G133 V ln I1 _ (by rw [← he, pAll, if_pos ((MS_0 hS).mp h110)]) hLI.1 (by have := hLI.2; omega) hD hF h27 hg h35
      · have n41 : ¬ (tok b0.2 b0.1 i).1 = 41 := fun z => h110 ((MS_0 hS).mpr z)
        have hlt := lt_of_T hN.2.1 hiN n41
        refine j_aload_n C (D 66 rfl) rfl ?_
        refine j_callV C B k_X12_294 (rc_obj C (lit (kd := 12) (n := 48) rfl) rfl rfl) (d_readLine _ _ hL hby hN ⟨hS, hg, hD, h18, hLI, hlt⟩) rfl rfl rfl rfl ⟨Nat.le_refl _, Nat.le_refl _⟩ (D 67 rfl) ?_
        rintro r w' ⟨rfl, I2, rfl, F2, k0, k1⟩
        obtain ⟨e, hq⟩ | ⟨⟨⟨V2, t2⟩, j⟩, hq⟩ := rs_c (pLn (tok b0.2 b0.1) V tt i)
        · obtain ⟨e0, e1⟩ := k0 e hq
          have hd : ¬ I2 172 34 = 0 := dd_of e0 (pLn_er hN hLI.1.1 hlt hLI hq)
          first | refine j_iinc1 C (D 68 rfl) rfl rfl ?_ | refine j_iinc C (D 68 rfl) rfl rfl rfl ?_
          refine j_goto C 99 (D 69 rfl) (by decide) ?_
          exact D99 e I2 _ _ (by rw [← he, pAll, if_neg n41, hq, bnd_l]) (hF.tr (F2.mo lMt)) (by rw [F2 _ _ (fun z => by unfold lM at z; omega)]; exact h27) e0 e1 hd
        · obtain ⟨g0, g1, g2, g3, g4⟩ := k1 _ hq
          obtain ⟨a1, a2, a3⟩ := pLn_go hN hlt hLI hq
          first | refine j_iinc1 C (D 68 rfl) rfl rfl ?_ | refine j_iinc C (D 68 rfl) rfl rfl rfl ?_
          refine j_goto C 99 (D 69 rfl) (by decide) ?_
          exact ih (ln + 1) V2 t2 j I2 _ (by omega) (by omega) a3 g2 g0 (by rw [g1]; exact h35) (by rw [F2 _ _ (fun z => by unfold lM at z; omega)]; exact h27) g3 g4 a1 (hF.tr (F2.mo lMt)) (by rw [← he, pAll, if_neg n41, hq, bnd_r])
  have L60 : ∀ m k (I1 : Nat → Nat → Int32), k + m = 80 → Fx (fun b _ => 184 ≤ b ∧ b ≤ 186) (tini I) I1 → (∀ x, x < k → I1 184 x = -1 ∧ I1 185 x = -1 ∧ I1 186 x = -1) → J Z (0, 0) 60 [some (.ref (ra G 172)), some (.int (nI k)), none] [] (wd I1 L R) := by
    intro m
    induction m with
    | zero =>
      intro k I1 hk hF hx
      have hF1 : ∀ b j, ¬ (184 ≤ b ∧ b ≤ 186) → I1 b j = tini I b j := fun b j z => hF b j z
      have hz : MZ I1 b0.2 b0.1 := ⟨by rw [hF1 _ _ (by omega)]; unfold tini; rw [up2_i (by omega), up2_i (by omega), up2_i (by omega), up2_i (by omega), up2_i (by omega), up2_i (by omega), up2_i (by omega), up2_i (by omega), up2_i (by omega), up2_i (by omega), up2_same]; exact hT.1, fun j hj => by rw [hF1 _ _ (by omega), tini_F _ _ (fun z => by unfold tF at z; omega)]; exact hT.2 j hj⟩
      have hFt : Fx tF I I1 := tini_F.tr (hF.mo (fun b j z => Or.inr ⟨by omega, by omega, by omega⟩))
      have q29 : I1 172 29 = nI 0 := by rw [hF1 _ _ (by omega)]; unfold tini; rw [up2_i (by omega), up2_i (by omega), up2_i (by omega), up2_i (by omega), up2_i (by omega), up2_i (by omega), up2_i (by omega), up2_i (by omega), up2_same]
      refine j_iload_n C (D 36 rfl) rfl ?_
      refine j_bipush C (v := nI 80) (D 37 rfl) rfl ?_
      refine j_icmp_ge C  93 (D 38 rfl) (by decide) (fun h63 => ?_) (fun h63 => absurd h63 (fun z => z ((nle (by omega) (by omega)).mpr (by omega))))
      refine j_aload_n C (D 56 rfl) rfl ?_
      refine j_callV C B k_X12_158 (rc_obj C (lit (kd := 12) (n := 48) rfl) rfl rfl) (d_advance0 _ _ hL hby hz 0 (Nat.zero_le _) q29 (i := 0) rfl) rfl rfl rfl rfl ⟨Nat.le_refl _, Nat.le_refl _⟩ (D 57 rfl) ?_
      rintro r w' ⟨rfl, I2, rfl, F2, S2⟩
      have hI2 : ∀ b j, ¬ (184 ≤ b ∧ b ≤ 186) → ¬ (b = 172 ∧ 29 ≤ j ∧ j ≤ 32) → I2 b j = tini I b j := fun b j h1 h2 => by rw [F2 _ _ (fun z => h2 z)]; exact hF1 b j h1
      refine j_iconst C (v := nI 0) (D 58 rfl) rfl ?_
      refine j_istore_n C (D 59 rfl) rfl ?_
      refine L99 1200 0 V0 false 0 I2 _ rfl (by omega) (Nat.zero_le _) S2 ?_ ?_ ?_ ?_ ?_ ⟨WV_0, Nat.zero_le _⟩ (hFt.tr (F2.mo aPt2)) rfl
      · rw [hI2 _ _ (by omega) (by omega)]; unfold tini; rw [up2_i (by omega), up2_i (by omega), up2_i (by omega), up2_i (by omega), up2_i (by omega), up2_i (by omega), up2_i (by omega), up2_same]
      · rw [hI2 _ _ (by omega) (by omega)]; unfold tini; rw [up2_i (by omega), up2_i (by omega), up2_i (by omega), up2_i (by omega), up2_i (by omega), up2_i (by omega), up2_same]
      · rw [hI2 _ _ (by omega) (by omega)]; unfold tini; rw [up2_i (by omega), up2_i (by omega), up2_i (by omega), up2_i (by omega), up2_i (by omega), up2_i (by omega), up2_i (by omega), up2_i (by omega), up2_i (by omega), up2_same]
      · refine ⟨?_, ?_, ?_, ?_, ?_, fun e he => absurd (show e < 0 from he) (by omega), fun a e ha he => ?_, fun k hk => absurd (show k < 0 from hk) (by omega), fun k hk => ?_, fun k hk => absurd (show k < 0 from hk) (by omega)⟩
        · rw [hI2 _ _ (by omega) (by omega)]; unfold tini; rw [up2_i (by omega), up2_i (by omega), up2_i (by omega), up2_i (by omega), up2_i (by omega), up2_same]; rfl
        · rw [hI2 _ _ (by omega) (by omega)]; unfold tini; rw [up2_i (by omega), up2_i (by omega), up2_i (by omega), up2_i (by omega), up2_same]; rfl
        · rw [hI2 _ _ (by omega) (by omega)]; unfold tini; rw [up2_i (by omega), up2_i (by omega), up2_i (by omega), up2_same]; rfl
        · rw [hI2 _ _ (by omega) (by omega)]; unfold tini; rw [up2_i (by omega), up2_i (by omega), up2_same]; rfl
        · rw [hI2 _ _ (by omega) (by omega)]; unfold tini; rw [up2_i (by omega), up2_same]; rfl
        · rw [F2 _ _ (fun z => by unfold aP at z; omega), F2 _ _ (fun z => by unfold aP at z; omega), F2 _ _ (fun z => by unfold aP at z; omega)]
          have := hx (10 * a + e) (by omega)
          show _ = (if a < 0 then _ else -1) ∧ _ = (if a < 0 then _ else -1) ∧ _ = (if a < 0 then _ else -1)
          rw [if_neg (by omega), if_neg (by omega), if_neg (by omega)]; exact this
        · have hk : k ≤ 0 := hk
          rw [show k = 0 by omega, hI2 _ _ (by omega) (by omega), tini_F _ _ (fun z => by unfold tF at z; omega)]; exact h182
      · rw [hI2 _ _ (by omega) (by omega)]; unfold tini; rw [up2_same]; rfl
    | succ m ih =>
      intro k I1 hk hF hx
      refine j_iload_n C (D 36 rfl) rfl ?_
      refine j_bipush C (v := nI 80) (D 37 rfl) rfl ?_
      refine j_icmp_ge C  93 (D 38 rfl) (by decide) (fun h63 => absurd h63 (fun z => by rw [nle (by omega) (by omega)] at z; omega)) (fun h63 => ?_)
      refine j_aload_n C (D 39 rfl) rfl ?_
      refine j_getr C f_X12_43 (lit (kd := 12) (n := 48) rfl) rfl rfl (hL _ _ _ rfl) (D 40 rfl) ?_
      refine j_iload_n C (D 41 rfl) rfl ?_
      refine j_iconst C (v := (-1)) (D 42 rfl) (by decide) ?_
      refine j_iast C (lit (kd := 20) (n := 80) rfl) (ix_n (by omega) (by decide)) (D 43 rfl) ?_
      refine j_aload_n C (D 44 rfl) rfl ?_
      refine j_getr C f_X12_46 (lit (kd := 12) (n := 48) rfl) rfl rfl (hL _ _ _ rfl) (D 45 rfl) ?_
      refine j_iload_n C (D 46 rfl) rfl ?_
      refine j_iconst C (v := (-1)) (D 47 rfl) (by decide) ?_
      refine j_iast C (lit (kd := 20) (n := 80) rfl) (ix_n (by omega) (by decide)) (D 48 rfl) ?_
      refine j_aload_n C (D 49 rfl) rfl ?_
      refine j_getr C f_X12_49 (lit (kd := 12) (n := 48) rfl) rfl rfl (hL _ _ _ rfl) (D 50 rfl) ?_
      refine j_iload_n C (D 51 rfl) rfl ?_
      refine j_iconst C (v := (-1)) (D 52 rfl) (by decide) ?_
      refine j_iast C (lit (kd := 20) (n := 80) rfl) (ix_n (by omega) (by decide)) (D 53 rfl) ?_
      first | refine j_iinc1 C (D 54 rfl) rfl rfl ?_ | refine j_iinc C (D 54 rfl) rfl rfl rfl ?_
      refine j_goto C 60 (D 55 rfl) (by decide) ?_
      exact ih (k + 1) _ (by omega) (Fx.up (Fx.up (Fx.up hF ⟨by omega, by omega⟩) ⟨by omega, by omega⟩) ⟨by omega, by omega⟩) (fun x hx2 => by
        by_cases q : x = k
        · rw [q, up2_i (by omega), up2_i (by omega), up2_same, up2_i (by omega), up2_same, up2_same]; exact ⟨rfl, rfl, rfl⟩
        · rw [up2_i (by omega), up2_i (by omega), up2_i (by omega), up2_i (by omega), up2_i (by omega), up2_i (by omega), up2_i (by omega), up2_i (by omega), up2_i (by omega)]; exact hx x (by omega))
  refine j_aload_n C (D 0 rfl) rfl ?_
  refine j_aload_n C (D 1 rfl) rfl ?_
  refine j_geti C f_X12_92 (lit (kd := 12) (n := 48) rfl) rfl rfl (D 2 rfl) ?_
  refine j_puti C f_X12_110 (lit (kd := 12) (n := 48) rfl) rfl rfl (D 3 rfl) ?_
  refine j_aload_n C (D 4 rfl) rfl ?_
  refine j_iconst C (v := nI 0) (D 5 rfl) rfl ?_
  refine j_puti C f_X12_92 (lit (kd := 12) (n := 48) rfl) rfl rfl (D 6 rfl) ?_
  refine j_aload_n C (D 7 rfl) rfl ?_
  refine j_iconst C (v := nI 0) (D 8 rfl) rfl ?_
  refine j_puti C f_X12_113 (lit (kd := 12) (n := 48) rfl) rfl rfl (D 9 rfl) ?_
  refine j_aload_n C (D 10 rfl) rfl ?_
  refine j_iconst C (v := nI 0) (D 11 rfl) rfl ?_
  refine j_puti C f_X12_103 (lit (kd := 12) (n := 48) rfl) rfl rfl (D 12 rfl) ?_
  refine j_aload_n C (D 13 rfl) rfl ?_
  refine j_iconst C (v := (-1)) (D 14 rfl) (by decide) ?_
  refine j_puti C f_X12_56 (lit (kd := 12) (n := 48) rfl) rfl rfl (D 15 rfl) ?_
  refine j_aload_n C (D 16 rfl) rfl ?_
  refine j_iconst C (v := nI 0) (D 17 rfl) rfl ?_
  refine j_puti C f_X12_184 (lit (kd := 12) (n := 48) rfl) rfl rfl (D 18 rfl) ?_
  refine j_aload_n C (D 19 rfl) rfl ?_
  refine j_iconst C (v := nI 0) (D 20 rfl) rfl ?_
  refine j_puti C f_X12_286 (lit (kd := 12) (n := 48) rfl) rfl rfl (D 21 rfl) ?_
  refine j_aload_n C (D 22 rfl) rfl ?_
  refine j_iconst C (v := nI 0) (D 23 rfl) rfl ?_
  refine j_puti C f_X12_255 (lit (kd := 12) (n := 48) rfl) rfl rfl (D 24 rfl) ?_
  refine j_aload_n C (D 25 rfl) rfl ?_
  refine j_iconst C (v := nI 0) (D 26 rfl) rfl ?_
  refine j_puti C f_X12_268 (lit (kd := 12) (n := 48) rfl) rfl rfl (D 27 rfl) ?_
  refine j_aload_n C (D 28 rfl) rfl ?_
  refine j_iconst C (v := nI 0) (D 29 rfl) rfl ?_
  refine j_puti C f_X12_212 (lit (kd := 12) (n := 48) rfl) rfl rfl (D 30 rfl) ?_
  refine j_aload_n C (D 31 rfl) rfl ?_
  refine j_iconst C (v := nI 0) (D 32 rfl) rfl ?_
  refine j_putz C f_X12_260 (lit (kd := 12) (n := 48) rfl) rfl rfl (D 33 rfl) (by first | exact Or.inl rfl | exact Or.inr rfl) ?_
  refine j_iconst C (v := nI 0) (D 34 rfl) rfl ?_
  refine j_istore_n C (D 35 rfl) rfl ?_
  exact L60 80 0 _ rfl (Fx.rf _ _) (fun x hx => by omega)
