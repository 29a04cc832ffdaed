/-! LINES -/
def bnd {α β : Type} : RS α → (α → RS β) → RS β
  | .inl e, _ => .inl e
  | .inr a, f => f a
theorem bnd_l {α β : Type} (e : Nat × Nat) (f : α → RS β) : bnd (.inl e) f = .inl e := rfl
theorem bnd_r {α β : Type} (a : α) (f : α → RS β) : bnd (.inr a) f = f a := rfl
theorem bnd_in {α β : Type} {r : RS α} {f : α → RS β} {b : β} (h : bnd r f = .inr b) : ∃ a, r = .inr a ∧ f a = .inr b := by
  match r, h with
  | .inr a, h => exact ⟨a, rfl, h⟩
theorem bnd_er {α β : Type} {r : RS α} {f : α → RS β} {e : Nat × Nat} (h : bnd r f = .inl e) : r = .inl e ∨ ∃ a, r = .inr a ∧ f a = .inl e := by
  match r, h with
  | .inl e', h => exact Or.inl (by rw [bnd_l] at h; cases h; rfl)
  | .inr a, h => exact Or.inr ⟨a, rfl, h⟩
def tb2 (E : Nat → Int32) (n v w : Nat) : Nat → Int32 := va_up (va_up E (6 + 2 * n) (nI v)) (6 + 2 * n + 1) (nI w)
def pTwo (T : Nat → TK) (n lw lx i : Nat) : RS ((Nat × Nat) × Nat) := bnd (pNum T i lw 100000) fun v => if n = 8 then .inl (fl T i 4) else bnd (pTake T v.2 28) fun j => bnd (pNum T j lx 2001) fun w => .inr ((v.1, w.1), w.2)
def pTab (T : Nat → TK) : Nat → Nat → Nat → Nat → (Nat → Int32) → Nat → RS ((Nat × (Nat → Int32)) × Nat)
  | 0, n, _, _, E, i => .inr ((n, E), i)
  | f + 1, n, lw, lx, E, i => bnd (pTwo T n lw lx (i + 1)) fun x => if (T x.2).1 = 29 then pTab T f (n + 1) (x.1.1 + 1) x.1.2 (tb2 E n x.1.1 x.1.2) x.2 else .inr ((n + 1, tb2 E n x.1.1 x.1.2), x.2)
def pFor (T : Nat → TK) (i cv : Nat) (E : Nat → Int32) : RS ((Nat → Int32) × Nat) := bnd (pNum T i 1 10000) fun a => bnd (pTake T a.2 4) fun j => bnd (pNum T j 1 100000) fun d => .inr (va_up (va_up (va_up E 2 (nI cv)) 3 (nI a.1)) 4 (nI d.1), d.2)
def crv (s : Nat) : Nat := if s = 6 then 0 else if s = 7 then 1 else if s = 8 then 2 else 99
def tbE (x : Nat × (Nat → Int32)) : Nat → Int32 := va_up (va_up (va_up x.2 2 (nI 3)) 3 (nI x.1)) 4 (-1)
def pCur (T : Nat → TK) (i : Nat) (E : Nat → Int32) : RS ((Nat → Int32) × Nat) := if (T i).1 = 9 then bnd (pTab T 9 0 0 0 E i) fun x => .inr (tbE x.1, x.2) else if crv (T i).1 = 99 then .inl (fl T i 1) else pFor T (i + 1) (crv (T i).1) E
def pSpr (T : Nat → TK) (i : Nat) : RS (Nat × Nat) := if (T i).1 = 5 then pNum T (i + 1) 0 1000 else .inr (0, i)
def fbE (s b : Nat) : Nat → Int32 := va_up (va_up (fun _ => 0) 0 (nI (if s = 2 then 1 else 0))) 1 (nI b)
def pEv (T : Nat → TK) (i : Nat) : RS ((Nat → Int32) × Nat) := if (T i).1 = 2 ∨ (T i).1 = 1 then bnd (pTake T (i + 1) 3) fun j => bnd (pNum T j 0 100000) fun b => bnd (pCur T b.2 (fbE (T i).1 b.1)) fun x => bnd (pSpr T x.2) fun s => .inr (va_up x.1 5 (nI s.1), s.2) else .inl (fl T i 1)
def addEv (V : VT) (E : Nat → Int32) : VT := ((vE V + 1, vA V, vB V, vt V), va_up (vev V) (vE V) E, vmk V, vgo V, vgi V, vbn V, vts V)
def addBn (V : VT) (a : Nat) (o : OPS) : VT := ((vE V, vA V, vB V + 1, vt V), vev V, vmk V, vgo V, vgi V, va_up (vbn V) (vB V) (nI a), va_up (vts V) (vB V) o)
def tio (s : Nat) : Nat := if s = 11 then 0 else if s = 12 then 1 else if s = 13 then 2 else 99
def pCell (T : Nat → TK) (V : VT) (i : Nat) : RS ((Nat × Nat) × Nat) := bnd (pNum T i 0 (vA V)) fun a => bnd (pNum T a.2 0 (vE V)) fun e => .inr ((a.1, e.1), e.2)
abbrev LST : Type := (VT × Bool) × Nat
def pTie (T : Nat → TK) (V : VT) (i : Nat) : RS LST := if tio (T (i + 1)).1 = 99 then .inl (fl T (i + 1) 1) else .inr ((tiV V (nI (tio (T (i + 1)).1)), true), i + 2)
def pBon (T : Nat → TK) (V : VT) (tt : Bool) (i : Nat) : RS LST := bnd (pNum T (i + 1) 1 501) fun a => bnd (pTake T a.2 15) fun j => bnd (tst T (vE V) 6 j) fun x => .inr ((addBn V a.1 x.1, tt), x.2)
def pMk (T : Nat → TK) (V : VT) (tt : Bool) (i : Nat) : RS LST := bnd (pCell T V (i + 1)) fun x => bnd (pNum T x.2 0 100000) fun v => .inr ((mkV V x.1.1 x.1.2 (nI v.1), tt), v.2)
def pGn (T : Nat → TK) (V : VT) (tt : Bool) (i : Nat) : RS LST := bnd (pCell T V (i + 1)) fun x => bnd (pNum T x.2 0 100000) fun v => bnd (pTake T v.2 19) fun j => bnd (pNum T j 1 1000) fun h => .inr ((gnV V x.1.1 x.1.2 (nI v.1) (nI h.1), tt), h.2)
def pLn0 (T : Nat → TK) (V : VT) (tt : Bool) (i : Nat) : RS LST :=
  if (T i).1 = 0 then (if vE V < 10 then bnd (pEv T (i + 1)) fun x => .inr ((addEv V x.1, tt), x.2) else .inl (fl T i 4))
  else if (T i).1 = 10 then (if tt = true then .inl (fl T i 3) else pTie T V i)
  else if (T i).1 = 14 then (if vB V < 4 then pBon T V tt i else .inl (fl T i 4))
  else if (T i).1 = 16 then (if vA V < 8 then .inr ((atV V, tt), i + 1) else .inl (fl T i 4))
  else if (T i).1 = 17 then pMk T V tt i
  else if (T i).1 = 18 then pGn T V tt i
  else .inl (fl T i 1)
def pLn (T : Nat → TK) (V : VT) (tt : Bool) (i : Nat) : RS LST := bnd (pLn0 T V tt i) fun x => bnd (pTake T x.2 27) fun j => .inr (x.1, j)
def pAll (T : Nat → TK) : Nat → VT → Bool → Nat → Nat → RS (Nat × VT)
  | 0, V, _, ln, _ => .inr (ln, V)
  | m + 1, V, tt, ln, i => if (T i).1 = 41 then .inr (ln, V) else bnd (pLn T V tt i) fun x => pAll T m x.1.1 x.1.2 (ln + 1) x.2
def V0 : VT := ((0, 0, 0, 0), fun _ _ => 0, fun _ _ => 0, fun _ _ => 0, fun _ _ => 0, fun _ => 0, fun _ => [])
/-! well told -/
theorem WV_set {V : VT} {s : SN} (h : WV V) (hA : s.1.1 ≤ 8) (ht : s.1.2 = 0 ∨ s.1.2 = 1 ∨ s.1.2 = 2) (hm : ∀ a e, a < s.1.1 → e < 10 → okM (s.2.1 a e) ∧ okG (s.2.2.1 a e) (s.2.2.2 a e)) : WV (setV V s) := ⟨h.1, hA, h.2.2.1, ht, h.2.2.2.2.1, hm, h.2.2.2.2.2.2⟩
theorem WV_mk {V : VT} {a e : Nat} {m : Int32} (h : WV V) (hm : okM m) : WV (mkV V a e m) := WV_set h h.2.1 h.2.2.2.1 (fun b j hb hj => by
  have := h.2.2.2.2.2.1 b j hb hj
  refine ⟨?_, this.2⟩
  show okM (tw (vmk V) a e m b j)
  rw [tw_at]
  by_cases q : b = a ∧ j = e
  · rw [if_pos q]; exact hm
  · rw [if_neg q]; exact this.1)
theorem WV_gn {V : VT} {a e : Nat} {g k : Int32} (h : WV V) (hm : okG g k) : WV (gnV V a e g k) := WV_set h h.2.1 h.2.2.2.1 (fun b j hb hj => by
  have := h.2.2.2.2.2.1 b j hb hj
  refine ⟨this.1, ?_⟩
  show okG (tw (vgo V) a e g b j) (tw (vgi V) a e k b j)
  rw [tw_at, tw_at]
  by_cases q : b = a ∧ j = e
  · rw [if_pos q, if_pos q]; exact hm
  · rw [if_neg q, if_neg q]; exact this.2)
theorem WV_ti {V : VT} {t : Int32} (h : WV V) (ht : t = 0 ∨ t = 1 ∨ t = 2) : WV (tiV V t) := WV_set h h.2.1 ht h.2.2.2.2.2.1
theorem WV_at {V : VT} (h : WV V) (hA : vA V < 8) : WV (atV V) := WV_set h (by show vA V + 1 ≤ 8; omega) h.2.2.2.1 (fun b j hb hj => by
  have hb : b < vA V + 1 := hb
  show okM (va_up (vmk V) (vA V) (fun _ => -1) b j) ∧ okG (va_up (vgo V) (vA V) (fun _ => -1) b j) (va_up (vgi V) (vA V) (fun _ => -1) b j)
  by_cases q : b = vA V
  · rw [q, vu_same, vu_same, vu_same]; exact ⟨Or.inl rfl, Or.inl ⟨rfl, rfl⟩⟩
  · rw [vu_ne _ _ q, vu_ne _ _ q, vu_ne _ _ q]; exact h.2.2.2.2.2.1 b j (by omega) hj)
theorem WV_ev {V : VT} {E : Nat → Int32} (h : WV V) (hE : vE V < 10) (hW : WE E) : WV (addEv V E) := by
  refine ⟨by show vE V + 1 ≤ 10; omega, h.2.1, h.2.2.1, h.2.2.2.1, fun e he => ?_, h.2.2.2.2.2.1, fun k hk => ?_, h.2.2.2.2.2.2.2⟩
  · have he : e < vE V + 1 := he
    show WE (va_up (vev V) (vE V) E e)
    by_cases q : e = vE V
    · rw [q, vu_same]; exact hW
    · rw [vu_ne _ _ q]; exact h.2.2.2.2.1 e (by omega)
  · obtain ⟨a1, a2, a3⟩ := h.2.2.2.2.2.2.1 k hk
    exact ⟨a1, fun q hq => by obtain ⟨b1, b2, b3, b4⟩ := a2 q hq; exact ⟨b1, b2, b3, fun z => by have := b4 z; show q.2.toInt < ((vE V + 1 : Nat) : Int); omega⟩, a3⟩
theorem off_up {t : Nat → OPS} {k : Nat} {o : OPS} : off (va_up t k o) k = off t k := off_congr (fun j hj => vu_ne _ _ (by omega))
theorem WV_bn {V : VT} {a : Nat} {o : OPS} (h : WV V) (hB : vB V < 4) (ha : 1 ≤ a ∧ a ≤ 500) (hw : ∀ q ∈ o, WO (vE V) q) (hk : ckS o [] = some [true]) (hl : off (vts V) (vB V) + o.length ≤ 1200) : WV (addBn V a o) := by
  refine ⟨h.1, h.2.1, by show vB V + 1 ≤ 4; omega, h.2.2.2.1, h.2.2.2.2.1, h.2.2.2.2.2.1, fun k hk2 => ?_, ?_⟩
  · have hk2 : k < vB V + 1 := hk2
    show (1 ≤ (va_up (vbn V) (vB V) (nI a) k).toInt ∧ (va_up (vbn V) (vB V) (nI a) k).toInt ≤ 500) ∧ (∀ q ∈ va_up (vts V) (vB V) o k, WO (vE V) q) ∧ ckS (va_up (vts V) (vB V) o k) [] = some [true]
    by_cases q : k = vB V
    · rw [q, vu_same, vu_same, nI_int (by omega)]; exact ⟨by omega, hw, hk⟩
    · rw [vu_ne _ _ q, vu_ne _ _ q]; exact h.2.2.2.2.2.2.1 k (by omega)
  · show off (va_up (vts V) (vB V) o) (vB V) + (va_up (vts V) (vB V) o (vB V)).length ≤ 1200
    rw [off_up, vu_same]; exact hl
/-- twos so far -/
def TBI (E : Nat → Int32) (n lw lx : Nat) : Prop := n ≤ 8 ∧ lw ≤ 100000 ∧ lx ≤ 2000 ∧ (∀ k, k < n → 0 ≤ tabW E k ∧ tabW E k ≤ 99999 ∧ 0 ≤ tabX E k ∧ tabX E k ≤ 2000) ∧ (∀ k, k + 1 < n → tabW E k < tabW E (k + 1) ∧ tabX E k ≤ tabX E (k + 1)) ∧ (n = 0 → lw = 0 ∧ lx = 0) ∧ (∀ k, k + 1 = n → tabW E k + 1 = lw ∧ tabX E k = lx)
theorem tb2_W {E : Nat → Int32} {n v w k : Nat} (hv : v ≤ 99999) : tabW (tb2 E n v w) k = if k = n then (v : Int) else tabW E k := by
  unfold tabW tb2
  by_cases q : k = n
  · rw [if_pos q, vu_ne _ _ (by omega), q, vu_same, nI_int (by omega)]
  · rw [if_neg q, vu_ne _ _ (by omega), vu_ne _ _ (by omega)]
theorem tb2_X {E : Nat → Int32} {n v w k : Nat} (hw : w ≤ 2000) : tabX (tb2 E n v w) k = if k = n then (w : Int) else tabX E k := by
  unfold tabX tb2
  by_cases q : k = n
  · rw [if_pos q, q, vu_same, nI_int (by omega)]
  · rw [if_neg q, vu_ne _ _ (by omega), vu_ne _ _ (by omega)]
theorem TBI_s {E : Nat → Int32} {n lw lx v w : Nat} (h : TBI E n lw lx) (hn : n < 8) (hv : lw ≤ v ∧ v < 100000) (hw : lx ≤ w ∧ w < 2001) : TBI (tb2 E n v w) (n + 1) (v + 1) w := by
  obtain ⟨h1, h2, h3, h4, h5, h6, h7⟩ := h
  refine ⟨by omega, by omega, by omega, fun k hk => ?_, fun k hk => ?_, fun z => by omega, fun k hk => ?_⟩
  · rw [tb2_W (by omega), tb2_X (by omega)]
    by_cases q : k = n
    · rw [if_pos q, if_pos q]; omega
    · rw [if_neg q, if_neg q]; exact h4 k (by omega)
  · rw [show tabW (tb2 E n v w) k = tabW E k from by rw [tb2_W (by omega), if_neg (by omega)], show tabX (tb2 E n v w) k = tabX E k from by rw [tb2_X (by omega), if_neg (by omega)], tb2_W (k := k + 1) (by omega), tb2_X (k := k + 1) (by omega)]
    by_cases q : k + 1 = n
    · rw [if_pos q, if_pos q]; have := h7 k q; omega
    · rw [if_neg q, if_neg q]; exact h5 k (by omega)
  · have q : k = n := by omega
    rw [tb2_W (by omega), tb2_X (by omega), if_pos q, if_pos q]
    omega
theorem pTwo_in {T : Nat → TK} {n lw lx i v w j : Nat} (h : pTwo T n lw lx i = .inr ((v, w), j)) : ¬ n = 8 ∧ (T i).1 = 39 ∧ v = (T i).2.2 ∧ lw ≤ v ∧ v < 100000 ∧ (T (i + 1)).1 = 28 ∧ (T (i + 2)).1 = 39 ∧ w = (T (i + 2)).2.2 ∧ lx ≤ w ∧ w < 2001 ∧ j = i + 3 := by
  unfold pTwo at h
  obtain ⟨⟨v1, j1⟩, h1, h2⟩ := bnd_in h
  obtain ⟨a1, a2, a3, a4, a5⟩ := pNum_in h1
  by_cases c : n = 8
  · rw [if_pos c] at h2; cases h2
  · rw [if_neg c] at h2
    obtain ⟨j2, h3, h4⟩ := bnd_in h2
    obtain ⟨b1, b2⟩ := pTake_in h3
    obtain ⟨⟨w1, j3⟩, h5, h6⟩ := bnd_in h4
    obtain ⟨c1, c2, c3, c4, c5⟩ := pNum_in h5
    cases h6
    have b1 : (T j1).1 = 28 := b1
    subst a5
    subst b2
    exact ⟨c, a1, a2, a3, a4, b1, c1, c2, c3, c4, c5⟩
section LNS
variable {T : Nat → TK} {N : Nat}
theorem pNum_go {i lo hx v j : Nat} (hT : TN T N) (hi : i ≤ N) (h : pNum T i lo hx = .inr (v, j)) : i < N ∧ j = i + 1 ∧ lo ≤ v ∧ v < hx := by
  obtain ⟨a1, a2, a3, a4, a5⟩ := pNum_in h
  exact ⟨lt_of_T hT.2.1 hi (by omega), a5, a3, a4⟩
theorem pTake_go {i s j : Nat} (hT : TN T N) (hi : i ≤ N) (hs : ¬ s = 41) (h : pTake T i s = .inr j) : i < N ∧ j = i + 1 := by
  obtain ⟨a1, a2⟩ := pTake_in h
  exact ⟨lt_of_T hT.2.1 hi (by omega), a2⟩
theorem pTwo_go {n lw lx i v w j : Nat} (hT : TN T N) (hi : i ≤ N) (h : pTwo T n lw lx i = .inr ((v, w), j)) : ¬ n = 8 ∧ i < j ∧ j ≤ N ∧ lw ≤ v ∧ v < 100000 ∧ lx ≤ w ∧ w < 2001 := by
  obtain ⟨a0, a1, a2, a3, a4, a5, a6, a7, a8, a9, a10⟩ := pTwo_in h
  have b1 := lt_of_T hT.2.1 hi (by omega)
  have b2 := lt_of_T hT.2.1 (i := i + 1) (by omega) (by omega)
  have b3 := lt_of_T hT.2.1 (i := i + 2) (by omega) (by omega)
  omega
theorem pTab_go (hT : TN T N) : ∀ (f n lw lx : Nat) (E : Nat → Int32) (i : Nat) (n2 : Nat) (E2 : Nat → Int32) (j : Nat), n + f = 9 → i < N → TBI E n lw lx → pTab T f n lw lx E i = .inr ((n2, E2), j) → (f = 0 ∨ (i < j ∧ j ≤ N ∧ 1 ≤ n2 ∧ (∃ a b, TBI E2 n2 a b) ∧ ∀ k, k < 6 → E2 k = E k)) := by
  intro f
  induction f with
  | zero => intro n lw lx E i n2 E2 j _ _ _ _; exact Or.inl rfl
  | succ f ih =>
    intro n lw lx E i n2 E2 j hf hi hI h
    right
    rw [pTab] at h
    obtain ⟨⟨⟨v, w⟩, j1⟩, h1, h2⟩ := bnd_in h
    obtain ⟨a0, a1, a2, a3, a4, a5, a6⟩ := pTwo_go hT (by omega) h1
    have hn8 : n ≤ 8 := hI.1
    have hI2 := TBI_s hI (by omega) ⟨a3, a4⟩ ⟨a5, a6⟩
    have hE : ∀ k, k < 6 → tb2 E n v w k = E k := fun k hk => by unfold tb2; rw [vu_ne _ _ (by omega), vu_ne _ _ (by omega)]
    have h2 : (if (T j1).1 = 29 then pTab T f (n + 1) (v + 1) w (tb2 E n v w) j1 else .inr ((n + 1, tb2 E n v w), j1)) = .inr ((n2, E2), j) := h2
    by_cases c : (T j1).1 = 29
    · rw [if_pos c] at h2
      have hj1 := lt_of_T hT.2.1 a2 (show ¬ (T j1).1 = 41 by omega)
      rcases ih (n + 1) (v + 1) w _ j1 n2 E2 j (by omega) hj1 hI2 h2 with z | ⟨z1, z2, z3, z4, z5⟩
      · omega
      · exact ⟨by omega, z2, z3, z4, fun k hk => by rw [z5 k hk]; exact hE k hk⟩
    · rw [if_neg c] at h2
      cases h2
      exact ⟨by omega, a2, by omega, ⟨_, _, hI2⟩, hE⟩
theorem crv_rng {s : Nat} (h : ¬ crv s = 99) : crv s ≤ 2 ∧ ¬ s = 41 := by
  unfold crv at h ⊢
  by_cases d1 : s = 6
  · rw [if_pos d1]; omega
  · rw [if_neg d1] at h ⊢
    by_cases d2 : s = 7
    · rw [if_pos d2]; omega
    · rw [if_neg d2] at h ⊢
      by_cases d3 : s = 8
      · rw [if_pos d3]; omega
      · rw [if_neg d3] at h; exact absurd rfl h
theorem pCur_go {i j : Nat} {E E2 : Nat → Int32} (hT : TN T N) (hi : i ≤ N) (h0 : E 0 = 0 ∨ E 0 = 1) (h1 : 0 ≤ (E 1).toInt ∧ (E 1).toInt ≤ 99999) (h : pCur T i E = .inr (E2, j)) : i < j ∧ j ≤ N ∧ ∀ s, s ≤ 999 → WE (va_up E2 5 (nI s)) := by
  unfold pCur at h
  by_cases c : (T i).1 = 9
  · rw [if_pos c] at h
    have hi2 := lt_of_T hT.2.1 hi (show ¬ (T i).1 = 41 by omega)
    obtain ⟨⟨⟨n2, E3⟩, j2⟩, h2, h3⟩ := bnd_in h
    cases h3
    have hI : TBI E 0 0 0 := ⟨by omega, by omega, by omega, fun k z => by omega, fun k z => by omega, fun _ => ⟨rfl, rfl⟩, fun k z => by omega⟩
    rcases pTab_go hT 9 0 0 0 E i n2 E3 j2 rfl hi2 hI h2 with z | ⟨z1, z2, z3, ⟨a, b, z4⟩, z5⟩
    · omega
    · refine ⟨z1, z2, fun s hs => ?_⟩
      obtain ⟨t1, t2, t3, t4, t5, t6, t7⟩ := z4
      have e6 : ∀ k, 6 ≤ k → va_up (tbE (n2, E3)) 5 (nI s) k = E3 k := fun k hk => by unfold tbE; rw [vu_ne _ _ (by omega), vu_ne _ _ (by omega), vu_ne _ _ (by omega), vu_ne _ _ (by omega)]
      have eW : ∀ k, tabW (va_up (tbE (n2, E3)) 5 (nI s)) k = tabW E3 k := fun k => by unfold tabW; rw [e6 _ (by omega)]
      have eX : ∀ k, tabX (va_up (tbE (n2, E3)) 5 (nI s)) k = tabX E3 k := fun k => by unfold tabX; rw [e6 _ (by omega)]
      have e0 : va_up (tbE (n2, E3)) 5 (nI s) 0 = E 0 := by unfold tbE; rw [vu_ne _ _ (by omega), vu_ne _ _ (by omega), vu_ne _ _ (by omega), vu_ne _ _ (by omega)]; exact z5 0 (by omega)
      have e1 : va_up (tbE (n2, E3)) 5 (nI s) 1 = E 1 := by unfold tbE; rw [vu_ne _ _ (by omega), vu_ne _ _ (by omega), vu_ne _ _ (by omega), vu_ne _ _ (by omega)]; exact z5 1 (by omega)
      have e2 : va_up (tbE (n2, E3)) 5 (nI s) 2 = 3 := by unfold tbE; rw [vu_ne _ _ (by omega), vu_ne _ _ (by omega), vu_ne _ _ (by omega), vu_same]; rfl
      have e3 : va_up (tbE (n2, E3)) 5 (nI s) 3 = nI n2 := by unfold tbE; rw [vu_ne _ _ (by omega), vu_ne _ _ (by omega), vu_same]
      have e4 : va_up (tbE (n2, E3)) 5 (nI s) 4 = -1 := by unfold tbE; rw [vu_ne _ _ (by omega), vu_same]
      refine ⟨by rw [e0]; exact h0, by rw [e1]; exact h1, by rw [vu_same, nI_int (by omega)]; omega, Or.inr ⟨e2, e4, n2, z3, t1, e3, fun k hk => ?_, fun k hk => ?_⟩⟩
      · rw [eW, eX]; exact t4 k hk
      · rw [eW, eX, eW, eX]; exact t5 k hk
  · rw [if_neg c] at h
    by_cases c2 : crv (T i).1 = 99
    · rw [if_pos c2] at h; cases h
    · rw [if_neg c2] at h
      obtain ⟨r1, r2⟩ := crv_rng c2
      have hi2 := lt_of_T hT.2.1 hi r2
      unfold pFor at h
      obtain ⟨⟨a, j1⟩, g1, h⟩ := bnd_in h
      obtain ⟨a1, a2, a3, a4⟩ := pNum_go hT (by omega) g1
      obtain ⟨j2, g2, h⟩ := bnd_in h
      have g2 : pTake T j1 4 = .inr j2 := g2
      obtain ⟨b1, b2⟩ := pTake_go hT (by omega) (by omega) g2
      obtain ⟨⟨d, j3⟩, g3, h⟩ := bnd_in h
      obtain ⟨c1, c2, c3, c4⟩ := pNum_go hT (by omega) g3
      cases h
      refine ⟨by show i < j3; omega, by show j3 ≤ N; omega, fun s hs => ?_⟩
      show WE (va_up (va_up (va_up (va_up E 2 (nI (crv (T i).1))) 3 (nI a)) 4 (nI d)) 5 (nI s))
      refine ⟨?_, ?_, by rw [vu_same, nI_int (by omega)]; omega, Or.inl ⟨?_, ?_, ?_⟩⟩
      · rw [vu_ne _ _ (by omega), vu_ne _ _ (by omega), vu_ne _ _ (by omega), vu_ne _ _ (by omega)]; exact h0
      · rw [vu_ne _ _ (by omega), vu_ne _ _ (by omega), vu_ne _ _ (by omega), vu_ne _ _ (by omega)]; exact h1
      · rw [vu_ne _ _ (by omega), vu_ne _ _ (by omega), vu_ne _ _ (by omega), vu_same]
        have : crv (T i).1 = 0 ∨ crv (T i).1 = 1 ∨ crv (T i).1 = 2 := by omega
        rcases this with z | z | z <;> rw [z] <;> decide
      · rw [vu_ne _ _ (by omega), vu_ne _ _ (by omega), vu_same, nI_int (by omega)]; omega
      · rw [vu_ne _ _ (by omega), vu_same, nI_int (by omega)]; omega
theorem pEv_go {i j : Nat} {E : Nat → Int32} (hT : TN T N) (hi : i ≤ N) (h : pEv T i = .inr (E, j)) : i < j ∧ j ≤ N ∧ WE E := by
  unfold pEv at h
  by_cases c : (T i).1 = 2 ∨ (T i).1 = 1
  · rw [if_pos c] at h
    have hi2 := lt_of_T hT.2.1 hi (show ¬ (T i).1 = 41 by omega)
    obtain ⟨j1, g1, h⟩ := bnd_in h
    obtain ⟨a1, a2⟩ := pTake_go hT (by omega) (by omega) g1
    obtain ⟨⟨b, j2⟩, g2, h⟩ := bnd_in h
    obtain ⟨b1, b2, b3, b4⟩ := pNum_go hT (by omega) g2
    obtain ⟨⟨E2, j3⟩, g3, h⟩ := bnd_in h
    have g3 : pCur T j2 (fbE (T i).1 b) = .inr (E2, j3) := g3
    obtain ⟨c1, c2, c3⟩ := pCur_go hT (by omega) (by unfold fbE; rw [vu_ne _ _ (by omega), vu_same]; by_cases z : (T i).1 = 2 <;> simp [z] <;> decide) (by unfold fbE; rw [vu_same, nI_int (by omega)]; omega) g3
    obtain ⟨⟨s, j4⟩, g4, h⟩ := bnd_in h
    cases h
    have g4 : pSpr T j3 = .inr (s, j4) := g4
    unfold pSpr at g4
    show i < j4 ∧ j4 ≤ N ∧ WE (va_up E2 5 (nI s))
    by_cases d : (T j3).1 = 5
    · rw [if_pos d] at g4
      have hj3 := lt_of_T hT.2.1 c2 (show ¬ (T j3).1 = 41 by omega)
      obtain ⟨d1, d2, d3, d4⟩ := pNum_go hT (by omega) g4
      exact ⟨by omega, by omega, c3 s (by omega)⟩
    · rw [if_neg d] at g4
      cases g4
      exact ⟨by omega, by omega, c3 0 (by omega)⟩
  · rw [if_neg c] at h; cases h
theorem pCell_go {V : VT} {i a e j : Nat} (hT : TN T N) (hi : i ≤ N) (h : pCell T V i = .inr ((a, e), j)) : i < j ∧ j ≤ N ∧ a < vA V ∧ e < vE V := by
  unfold pCell at h
  obtain ⟨⟨a1, j1⟩, g1, h⟩ := bnd_in h
  obtain ⟨b1, b2, b3, b4⟩ := pNum_go hT hi g1
  obtain ⟨⟨e1, j2⟩, g2, h⟩ := bnd_in h
  have g2 : pNum T j1 0 (vE V) = .inr (e1, j2) := g2
  obtain ⟨c1, c2, c3, c4⟩ := pNum_go hT (by omega) g2
  cases h
  exact ⟨by show i < j2; omega, by show j2 ≤ N; omega, b4, c4⟩
def LI (V : VT) (i : Nat) : Prop := WV V ∧ off (vts V) (vB V) ≤ i
theorem tio_rng {s : Nat} (h : ¬ tio s = 99) : (nI (tio s) = 0 ∨ nI (tio s) = 1 ∨ nI (tio s) = 2) ∧ ¬ s = 41 := by
  unfold tio at h ⊢
  by_cases d1 : s = 11
  · rw [if_pos d1]; exact ⟨Or.inl rfl, by omega⟩
  · rw [if_neg d1] at h ⊢
    by_cases d2 : s = 12
    · rw [if_pos d2]; exact ⟨Or.inr (Or.inl rfl), by omega⟩
    · rw [if_neg d2] at h ⊢
      by_cases d3 : s = 13
      · rw [if_pos d3]; exact ⟨Or.inr (Or.inr rfl), by omega⟩
      · rw [if_neg d3] at h; exact absurd rfl h
theorem pLn0_go {V V' : VT} {tt tt' : Bool} {i j : Nat} (hT : TN T N) (hi : i < N) (hV : LI V i) (h : pLn0 T V tt i = .inr ((V', tt'), j)) : LI V' j ∧ i < j ∧ j ≤ N := by
  have hN1 := hT.1
  have hm : ∀ v, v < 100000 → okM (nI v) := fun v hv => Or.inr (by rw [nI_int (by omega)]; omega)
  obtain ⟨hW, ho⟩ := hV
  unfold pLn0 at h
  by_cases c0 : (T i).1 = 0
  · rw [if_pos c0] at h
    by_cases d : vE V < 10
    · rw [if_pos d] at h
      obtain ⟨⟨E, j1⟩, g1, h⟩ := bnd_in h
      obtain ⟨a1, a2, a3⟩ := pEv_go hT (by omega) g1
      cases h
      exact ⟨⟨WV_ev hW d a3, by show off (vts V) (vB V) ≤ j1; omega⟩, by show i < j1; omega, a2⟩
    · rw [if_neg d] at h; cases h
  · rw [if_neg c0] at h
    by_cases c1 : (T i).1 = 10
    · rw [if_pos c1] at h
      by_cases d : tt = true
      · rw [if_pos d] at h; cases h
      · rw [if_neg d] at h
        unfold pTie at h
        by_cases e : tio (T (i + 1)).1 = 99
        · rw [if_pos e] at h; cases h
        · rw [if_neg e] at h
          cases h
          obtain ⟨r1, r2⟩ := tio_rng e
          have := lt_of_T hT.2.1 (i := i + 1) (by omega) r2
          exact ⟨⟨WV_ti hW r1, by show off (vts V) (vB V) ≤ i + 2; omega⟩, by omega, by omega⟩
    · rw [if_neg c1] at h
      by_cases c2 : (T i).1 = 14
      · rw [if_pos c2] at h
        by_cases d : vB V < 4
        · rw [if_pos d] at h
          unfold pBon at h
          obtain ⟨⟨a, j1⟩, g1, h⟩ := bnd_in h
          obtain ⟨a1, a2, a3, a4⟩ := pNum_go hT (by omega) g1
          obtain ⟨j2, g2, h⟩ := bnd_in h
          have g2 : pTake T j1 15 = .inr j2 := g2
          obtain ⟨b1, b2⟩ := pTake_go hT (by omega) (by omega) g2
          obtain ⟨⟨o, j3⟩, g3, h⟩ := bnd_in h
          cases h
          have hk := tst_ok (nE := vE V) hT.2.1 hW.1 6 j2 (by omega)
          rw [g3] at hk
          obtain ⟨k1, k2, k3, k4⟩ := hk
          have k5 : ckS o [] = some [true] := k4.2 [] (by simp)
          show LI (addBn V a o) j3 ∧ i < j3 ∧ j3 ≤ N
          refine ⟨⟨WV_bn hW d ⟨a3, by omega⟩ k4.1 k5 (by omega), ?_⟩, by omega, k2⟩
          show off (va_up (vts V) (vB V) o) (vB V) + (va_up (vts V) (vB V) o (vB V)).length ≤ j3
          rw [off_up, vu_same]
          omega
        · rw [if_neg d] at h; cases h
      · rw [if_neg c2] at h
        by_cases c3 : (T i).1 = 16
        · rw [if_pos c3] at h
          by_cases d : vA V < 8
          · rw [if_pos d] at h
            cases h
            exact ⟨⟨WV_at hW d, by show off (vts V) (vB V) ≤ i + 1; omega⟩, by omega, by omega⟩
          · rw [if_neg d] at h; cases h
        · rw [if_neg c3] at h
          by_cases c4 : (T i).1 = 17
          · rw [if_pos c4] at h
            unfold pMk at h
            obtain ⟨⟨⟨a, e⟩, j1⟩, g1, h⟩ := bnd_in h
            obtain ⟨a1, a2, a3, a4⟩ := pCell_go hT (by omega) g1
            obtain ⟨⟨v, j2⟩, g2, h⟩ := bnd_in h
            have g2 : pNum T j1 0 100000 = .inr (v, j2) := g2
            obtain ⟨b1, b2, b3, b4⟩ := pNum_go hT (by omega) g2
            cases h
            exact ⟨⟨WV_mk hW (hm v b4), by show off (vts V) (vB V) ≤ j2; omega⟩, by show i < j2; omega, by show j2 ≤ N; omega⟩
          · rw [if_neg c4] at h
            by_cases c5 : (T i).1 = 18
            · rw [if_pos c5] at h
              unfold pGn at h
              obtain ⟨⟨⟨a, e⟩, j1⟩, g1, h⟩ := bnd_in h
              obtain ⟨a1, a2, a3, a4⟩ := pCell_go hT (by omega) g1
              obtain ⟨⟨v, j2⟩, g2, h⟩ := bnd_in h
              have g2 : pNum T j1 0 100000 = .inr (v, j2) := g2
              obtain ⟨b1, b2, b3, b4⟩ := pNum_go hT (by omega) g2
              obtain ⟨j3, g3, h⟩ := bnd_in h
              have g3 : pTake T j2 19 = .inr j3 := g3
              obtain ⟨d1, d2⟩ := pTake_go hT (by omega) (by omega) g3
              obtain ⟨⟨u, j4⟩, g4, h⟩ := bnd_in h
              obtain ⟨e1, e2, e3, e4⟩ := pNum_go hT (by omega) g4
              cases h
              exact ⟨⟨WV_gn hW (Or.inr ⟨by rw [nI_int (by omega)]; omega, by rw [nI_int (by omega)]; omega⟩), by show off (vts V) (vB V) ≤ j4; omega⟩, by show i < j4; omega, by show j4 ≤ N; omega⟩
            · rw [if_neg c5] at h; cases h
theorem pLn_go {V V' : VT} {tt tt' : Bool} {i j : Nat} (hT : TN T N) (hi : i < N) (hV : LI V i) (h : pLn T V tt i = .inr ((V', tt'), j)) : LI V' j ∧ i < j ∧ j ≤ N := by
  unfold pLn at h
  obtain ⟨⟨⟨V1, t1⟩, j1⟩, g1, h⟩ := bnd_in h
  obtain ⟨a1, a2, a3⟩ := pLn0_go hT hi hV g1
  obtain ⟨j2, g2, h⟩ := bnd_in h
  have g2 : pTake T j1 27 = .inr j2 := g2
  obtain ⟨b1, b2⟩ := pTake_go hT (by omega) (by omega) g2
  cases h
  have a4 := a1.2
  exact ⟨⟨a1.1, by omega⟩, by omega, by omega⟩
end LNS
