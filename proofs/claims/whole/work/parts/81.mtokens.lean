/-! the model's TOKENS -/
def isBy (x : Int32) : Prop := x.toInt8.toInt32 = x
theorem by_dec : ∀ j, j < 256 → ((nI j).toInt8.toInt32).toInt = if j < 128 then (j : Int) else (j : Int) - 256 := by decide +kernel
theorem by_v {x : Int32} (h : isBy x) : ∃ j, j < 256 ∧ x &&& 255 = nI j ∧ x.toInt = if j < 128 then (j : Int) else (j : Int) - 256 := by
  obtain ⟨j, hj, e⟩ := pk_andE x (m := 255) 8 (by decide)
  have hj : j < 256 := by simpa using hj
  exact ⟨j, hj, e, by rw [(sc_eq h hj).mpr e]; exact by_dec j hj⟩
def sv (f : Nat → Int32) (n k : Nat) : Int32 := if k < n then f k &&& 255 else -1
def BY (f : Nat → Int32) (n : Nat) : Prop := n ≤ 1200 ∧ ∀ j, j < n → isBy (f j)
theorem sv_eq {f : Nat → Int32} {n k v : Nat} (hb : BY f n) (hv : v < 128) : sv f n k = nI v ↔ k < n ∧ f k = nI v := by
  unfold sv
  by_cases c : k < n
  · rw [if_pos c]
    obtain ⟨j, hj, e, e2⟩ := by_v (hb.2 k c)
    rw [e, i_eq, i_eq, nI_int (by omega), nI_int (by omega), e2]
    by_cases q : j < 128
    · rw [if_pos q]; omega
    · rw [if_neg q]; omega
  · rw [if_neg c]
    constructor
    · intro z; rw [i_eq, nI_int (by omega)] at z; exact absurd z (by show ¬ (-1 : Int) = v; omega)
    · intro z; exact absurd z.1 c
theorem sv_in {f : Nat → Int32} {n k : Nat} {lo hi : Int} (hb : BY f n) (h1 : 0 ≤ lo) (h2 : hi < 128) : (lo ≤ (sv f n k).toInt ∧ (sv f n k).toInt ≤ hi) ↔ k < n ∧ (lo ≤ (f k).toInt ∧ (f k).toInt ≤ hi) := by
  unfold sv
  by_cases c : k < n
  · rw [if_pos c]
    obtain ⟨j, hj, e, e2⟩ := by_v (hb.2 k c)
    rw [e, nI_int (by omega), e2]
    by_cases q : j < 128
    · rw [if_pos q]; omega
    · rw [if_neg q]; omega
  · rw [if_neg c, show (-1 : Int32).toInt = -1 by decide]
    omega
theorem sv_end {f : Nat → Int32} {n k : Nat} (hb : BY f n) : sv f n k = -1 ↔ ¬ k < n := by
  unfold sv
  by_cases c : k < n
  · rw [if_pos c]
    obtain ⟨j, hj, e, e2⟩ := by_v (hb.2 k c)
    rw [e, i_eq, nI_int (by omega), show (-1 : Int32).toInt = -1 by decide]
    omega
  · rw [if_neg c]; exact ⟨fun _ => c, fun _ => rfl⟩
def MZ (I : Nat → Nat → Int32) (f : Nat → Int32) (n : Nat) : Prop := I 172 28 = nI n ∧ ∀ j, j < n → I 187 j = f j
def MQt (I : Nat → Nat → Int32) (f : Nat → Int32) (n q : Nat) : Prop := I 172 30 = nI q ∧ (q = n → I 172 31 = nI 0 ∧ I 172 29 = nI n) ∧ (q < n → I 172 29 = nI (ten f n q) ∧ (ltr (f q) = true → I 172 31 = nI 1) ∧ (dgt (f q) = true → I 172 31 = nI 2 ∧ I 172 32 = nI (min 9999999 (vlN f q (ten f n q - q)))) ∧ (¬ ltr (f q) = true → ¬ dgt (f q) = true → I 172 31 = nI 3 ∧ I 172 32 = f q &&& 255))
/-- the model stands at TOKEN i -/
def MS (I : Nat → Nat → Int32) (f : Nat → Int32) (n i : Nat) : Prop := MZ I f n ∧ MQt I f n (spo f n i)
def aP (b j : Nat) : Prop := b = 172 ∧ 29 ≤ j ∧ j ≤ 32
theorem MZ_go {I I' : Nat → Nat → Int32} {f : Nat → Int32} {n : Nat} {P : Nat → Nat → Prop} (h : MZ I f n) (hF : Fx P I I') (hP : ∀ b j, P b j → ¬ (b = 172 ∧ j = 28) ∧ ¬ b = 187) : MZ I' f n :=
  ⟨by rw [hF _ _ (fun z => (hP _ _ z).1 ⟨rfl, rfl⟩)]; exact h.1, fun j hj => by rw [hF _ _ (fun z => (hP _ _ z).2 rfl)]; exact h.2 j hj⟩
theorem MQ_go {I I' : Nat → Nat → Int32} {f : Nat → Int32} {n q : Nat} {P : Nat → Nat → Prop} (h : MQt I f n q) (hF : Fx P I I') (hP : ∀ b j, P b j → ¬ (b = 172 ∧ 29 ≤ j ∧ j ≤ 32)) : MQt I' f n q := by
  unfold MQt at h ⊢
  rw [hF 172 29 (fun z => hP _ _ z ⟨rfl, by omega, by omega⟩), hF 172 30 (fun z => hP _ _ z ⟨rfl, by omega, by omega⟩), hF 172 31 (fun z => hP _ _ z ⟨rfl, by omega, by omega⟩), hF 172 32 (fun z => hP _ _ z ⟨rfl, by omega, by omega⟩)]
  exact h
theorem MS_go {I I' : Nat → Nat → Int32} {f : Nat → Int32} {n i : Nat} {P : Nat → Nat → Prop} (h : MS I f n i) (hF : Fx P I I') (hP : ∀ b j, P b j → ¬ (b = 172 ∧ 28 ≤ j ∧ j ≤ 32) ∧ ¬ b = 187) : MS I' f n i :=
  ⟨MZ_go h.1 hF (fun b j z => ⟨fun y => (hP b j z).1 ⟨y.1, by omega, by omega⟩, (hP b j z).2⟩), MQ_go h.2 hF (fun b j z y => (hP b j z).1 ⟨y.1, by omega, by omega⟩)⟩
set_option maxRecDepth 20000 in
theorem d_see (l : Launch) (G : GT) {I : Nat → Nat → Int32} {L : Nat → Nat → Int64} {R : Nat → Nat → Option Nat} (hL : Lay R) {f : Nat → Int32} {n : Nat} (hb : BY f n) (hz : MZ I f n) (k : Nat) (hk : k ≤ n) : Mt l G mX12_see (0) 0 0 [.ref (ra G 172), .int (nI k)] (wd I L R) (pV (.int (sv f n k)) (wd I L R)) := by
  refine mt_of (own := RX12) (by decide) rfl rfl (fun Z C P B => ?_)
  have D := @dc_of _ _ dX12_see
  have hn := hb.1
  refine j_iload_n C (D 0 rfl) rfl ?_
  refine j_aload_n C (D 1 rfl) rfl ?_
  refine j_geti C f_X12_110 (lit (kd := 12) (n := 48) rfl) rfl rfl (D 2 rfl) ?_
  rw [hz.1]
  refine j_icmp_ge C  21 (D 3 rfl) (by decide) (fun h5 => ?_) (fun h5 => ?_)
  · refine j_iconst C (v := (-1)) (D 11 rfl) rfl ?_
    exact j_iret C P rfl (D 12 rfl) ⟨Nat.le_refl _, Nat.le_refl _⟩ (pv_i (by unfold sv; rw [if_neg (by rw [nle (by omega) (by omega)] at h5; omega)]))
  · have hkn : k < n := by rw [nle (by omega) (by omega)] at h5; omega
    refine j_aload_n C (D 4 rfl) rfl ?_
    refine j_getr C f_X12_52 (lit (kd := 12) (n := 48) rfl) rfl rfl (hL _ _ _ rfl) (D 5 rfl) ?_
    refine j_iload_n C (D 6 rfl) rfl ?_
    refine j_bald C (lit (kd := 21) (n := 1200) rfl) (ix_n (by omega) (by decide)) (D 7 rfl) ?_
    rw [hz.2 k hkn]
    refine j_sipush C (v := nI 255) (D 8 rfl) rfl ?_
    refine j_iand C (D 9 rfl) ?_
    refine j_goto C 22 (D 10 rfl) (by decide) ?_
    exact j_iret C P rfl (D 12 rfl) ⟨Nat.le_refl _, Nat.le_refl _⟩ (pv_i (by unfold sv; rw [if_pos hkn]; rfl))
theorem ltr_nd {x : Int32} (h : ltr x = true) : ¬ dgt x = true := fun z => by
  unfold ltr at h; unfold dgt at z
  rw [decide_eq_true_iff] at h z; omega
theorem in_l {f : Nat → Int32} {n k : Nat} (hb : BY f n) : ((97 : Int64).toInt ≤ (sv f n k).toInt64.toInt ∧ (sv f n k).toInt64.toInt ≤ (122 : Int64).toInt) ↔ k < n ∧ ltr (f k) = true := by
  rw [i_l, show (97 : Int64).toInt = 97 by decide, show (122 : Int64).toInt = 122 by decide, sv_in hb (by omega) (by omega)]
  unfold ltr
  rw [decide_eq_true_iff]
theorem in_d {f : Nat → Int32} {n k : Nat} (hb : BY f n) : ((48 : Int64).toInt ≤ (sv f n k).toInt64.toInt ∧ (sv f n k).toInt64.toInt ≤ (57 : Int64).toInt) ↔ k < n ∧ dgt (f k) = true := by
  rw [i_l, show (48 : Int64).toInt = 48 by decide, show (57 : Int64).toInt = 57 by decide, sv_in hb (by omega) (by omega)]
  unfold dgt
  rw [decide_eq_true_iff]
theorem sv_d {f : Nat → Int32} {n k d : Nat} (hb : BY f n) (hk : k < n) (hd : d ≤ 9) (e : f k = nI (48 + d)) : sv f n k = nI (48 + d) := (sv_eq hb (by omega)).mpr ⟨hk, e⟩
set_option maxRecDepth 20000 in
theorem d_advance0 (l : Launch) (G : GT) {I : Nat → Nat → Int32} {L : Nat → Nat → Int64} {R : Nat → Nat → Option Nat} (hL : Lay R) {f : Nat → Int32} {n : Nat} (hb : BY f n) (hz : MZ I f n) (p0 : Nat) (hp : p0 ≤ n) (h29 : I 172 29 = nI p0) {i : Nat} (hi : skp f n p0 = spo f n i) : Mt l G mX12_advance (1) 0 0 [.ref (ra G 172)] (wd I L R) (fun r w' => r = none ∧ ∃ I', w' = wd I' L R ∧ Fx aP I I' ∧ MS I' f n i) := by
  refine mt_of (own := RX12) (by decide) rfl rfl (fun Z C P B => ?_)
  have D := @dc_of _ _ dX12_advance
  have hn := hb.1
  have MSof : ∀ I', Fx aP I I' → MQt I' f n (skp f n p0) → MS I' f n i := fun I' h1 h2 => ⟨MZ_go hz h1 (fun b j z => by unfold aP at z; omega), by rw [← hi]; exact h2⟩
  have L8 : ∀ (q0 : Nat) m q (I1 : Nat → Nat → Int32) (x1 : Option Value), n - q = m → q0 ≤ q → q ≤ n → I1 172 29 = nI q → I1 172 30 = nI q0 → Fx aP I I1 → rn (fun k => ltr (f k)) (n - q) q = ten f n q0 → q0 < n → ltr (f q0) = true → q0 = skp f n p0 → J Z (0, 0) 83 [some (.ref (ra G 172)), x1] [] (wd I1 L R) := by
    intro q0 m
    induction m with
    | zero =>
      intro q I1 x1 hm hq1 hq h29 h30 hF he hq0 hl hp0
      have hz1 := MZ_go hz hF (fun b j z => by unfold aP at z; omega)
      refine j_aload_n C (D 41 rfl) rfl ?_
      refine j_aload_n C (D 42 rfl) rfl ?_
      refine j_geti C f_X12_113 (lit (kd := 12) (n := 48) rfl) rfl rfl (D 43 rfl) ?_
      rw [h29]
      refine j_cVp C B k_X12_116 (rc_obj C (lit (kd := 12) (n := 48) rfl) rfl rfl) (d_see _ _ hL hb hz1 q (by omega)) rfl rfl rfl rfl ⟨Nat.le_refl _, Nat.le_refl _⟩ (D 44 rfl) ?_
      refine j_i2l C (D 45 rfl) ?_
      refine j_ldc2_w C (v := 97) (D 46 rfl) n_X12_126 ?_
      refine j_ldc2_w C (v := 122) (D 47 rfl) n_X12_128 ?_
      refine j_cSp C B k_X12_99 (d_in _ _ _ _ _ _) rfl rfl rfl rfl ⟨Nat.le_refl _, Nat.le_refl _⟩ (D 48 rfl) ?_
      refine j_if_eq C  117 (D 49 rfl) (by decide) (fun h101 => ?_) (fun h101 => absurd h101 (fun z => by have := ((in_l hb).mp (b2_ne z)).1; omega))
      refine j_aload_n C (D 57 rfl) rfl ?_
      refine j_iconst C (v := nI 1) (D 58 rfl) rfl ?_
      refine j_puti C f_X12_123 (lit (kd := 12) (n := 48) rfl) rfl rfl (D 59 rfl) ?_
      refine j_goto C 234 (D 60 rfl) (by decide) ?_
      exact j_vret C P rfl (D 117 rfl) ⟨Nat.le_refl _, Nat.le_refl _⟩ ⟨rfl, _, rfl, Fx.up hF ⟨rfl, by omega, by omega⟩, by
  refine MSof _ (Fx.up hF ⟨rfl, by omega, by omega⟩) ?_
  rw [← hp0]
  refine ⟨by rw [up2_i (by omega)]; exact h30, fun z => absurd z (by omega), fun _ => ⟨by rw [up2_i (by omega), h29, ← he, rn_e (by omega)], fun _ => up2_same _ _ _ _, fun z => absurd z (ltr_nd hl), fun z => absurd hl z⟩⟩⟩
    | succ m ih =>
      intro q I1 x1 hm hq1 hq h29 h30 hF he hq0 hl hp0
      have hz1 := MZ_go hz hF (fun b j z => by unfold aP at z; omega)
      refine j_aload_n C (D 41 rfl) rfl ?_
      refine j_aload_n C (D 42 rfl) rfl ?_
      refine j_geti C f_X12_113 (lit (kd := 12) (n := 48) rfl) rfl rfl (D 43 rfl) ?_
      rw [h29]
      refine j_cVp C B k_X12_116 (rc_obj C (lit (kd := 12) (n := 48) rfl) rfl rfl) (d_see _ _ hL hb hz1 q (by omega)) rfl rfl rfl rfl ⟨Nat.le_refl _, Nat.le_refl _⟩ (D 44 rfl) ?_
      refine j_i2l C (D 45 rfl) ?_
      refine j_ldc2_w C (v := 97) (D 46 rfl) n_X12_126 ?_
      refine j_ldc2_w C (v := 122) (D 47 rfl) n_X12_128 ?_
      refine j_cSp C B k_X12_99 (d_in _ _ _ _ _ _) rfl rfl rfl rfl ⟨Nat.le_refl _, Nat.le_refl _⟩ (D 48 rfl) ?_
      refine j_if_eq C  117 (D 49 rfl) (by decide) (fun h101 => ?_) (fun h101 => ?_)
      · refine j_aload_n C (D 57 rfl) rfl ?_
        refine j_iconst C (v := nI 1) (D 58 rfl) rfl ?_
        refine j_puti C f_X12_123 (lit (kd := 12) (n := 48) rfl) rfl rfl (D 59 rfl) ?_
        refine j_goto C 234 (D 60 rfl) (by decide) ?_
        exact j_vret C P rfl (D 117 rfl) ⟨Nat.le_refl _, Nat.le_refl _⟩ ⟨rfl, _, rfl, Fx.up hF ⟨rfl, by omega, by omega⟩, by
  refine MSof _ (Fx.up hF ⟨rfl, by omega, by omega⟩) ?_
  rw [← hp0]
  refine ⟨by rw [up2_i (by omega)]; exact h30, fun z => absurd z (by omega), fun _ => ⟨by rw [up2_i (by omega), h29, ← he, rn_f (g := fun k => ltr (f k)) (fun z => b2_eq h101 ((in_l hb).mpr ⟨by omega, z⟩))], fun _ => up2_same _ _ _ _, fun z => absurd z (ltr_nd hl), fun z => absurd hl z⟩⟩⟩
      · refine j_aload_n C (D 50 rfl) rfl ?_
        refine j_dup C (D 51 rfl) rfl ?_
        refine j_geti C f_X12_113 (lit (kd := 12) (n := 48) rfl) rfl rfl (D 52 rfl) ?_
        rw [h29]
        refine j_iconst C (v := nI 1) (D 53 rfl) rfl ?_
        refine j_iadd C (D 54 rfl) ?_
        rw [nI_add]
        refine j_puti C f_X12_113 (lit (kd := 12) (n := 48) rfl) rfl rfl (D 55 rfl) ?_
        refine j_goto C 83 (D 56 rfl) (by decide) ?_
        exact ih (q + 1) _ _ (by omega) (by omega) (by omega) (up2_same _ _ _ _) (by rw [up2_i (by omega)]; exact h30) (Fx.up hF ⟨rfl, by omega, by omega⟩) (by rw [← he, rn_t (g := fun k => ltr (f k)) (by omega) ((in_l hb).mp (b2_ne h101)).2]) hq0 hl hp0
  have L14 : ∀ (q0 : Nat) m k (I1 : Nat → Nat → Int32) (x1 : Option Value), n - (q0 + k) = m → q0 + k ≤ n → I1 172 29 = nI (q0 + k) → I1 172 30 = nI q0 → I1 172 32 = nI (min 9999999 (vlN f q0 k)) → Fx aP I I1 → rn (fun k => dgt (f k)) (n - (q0 + k)) (q0 + k) = ten f n q0 → q0 < n → dgt (f q0) = true → q0 = skp f n p0 → J Z (0, 0) 144 [some (.ref (ra G 172)), x1] [] (wd I1 L R) := by
    intro q0 m
    induction m with
    | zero =>
      intro k I1 x1 hm hq h29 h30 h32 hF he hq0 hl hp0
      have hz1 := MZ_go hz hF (fun b j z => by unfold aP at z; omega)
      refine j_aload_n C (D 70 rfl) rfl ?_
      refine j_aload_n C (D 71 rfl) rfl ?_
      refine j_geti C f_X12_113 (lit (kd := 12) (n := 48) rfl) rfl rfl (D 72 rfl) ?_
      rw [h29]
      refine j_cVp C B k_X12_116 (rc_obj C (lit (kd := 12) (n := 48) rfl) rfl rfl) (d_see _ _ hL hb hz1 (q0 + k) (by omega)) rfl rfl rfl rfl ⟨Nat.le_refl _, Nat.le_refl _⟩ (D 73 rfl) ?_
      refine j_i2l C (D 74 rfl) ?_
      refine j_ldc2_w C (v := 48) (D 75 rfl) n_X12_130 ?_
      refine j_ldc2_w C (v := 57) (D 76 rfl) n_X12_132 ?_
      refine j_cSp C B k_X12_99 (d_in _ _ _ _ _ _) rfl rfl rfl rfl ⟨Nat.le_refl _, Nat.le_refl _⟩ (D 77 rfl) ?_
      refine j_if_eq C  206 (D 78 rfl) (by decide) (fun h162 => ?_) (fun h162 => absurd h162 (fun z => by have := ((in_d hb).mp (b2_ne z)).1; omega))
      refine j_aload_n C (D 101 rfl) rfl ?_
      refine j_iconst C (v := nI 2) (D 102 rfl) rfl ?_
      refine j_puti C f_X12_123 (lit (kd := 12) (n := 48) rfl) rfl rfl (D 103 rfl) ?_
      refine j_goto C 234 (D 104 rfl) (by decide) ?_
      exact j_vret C P rfl (D 117 rfl) ⟨Nat.le_refl _, Nat.le_refl _⟩ ⟨rfl, _, rfl, Fx.up hF ⟨rfl, by omega, by omega⟩, by
  refine MSof _ (Fx.up hF ⟨rfl, by omega, by omega⟩) ?_
  rw [← hp0]
  have e3 : ten f n q0 = q0 + k := by rw [← he, rn_e (by omega)]
  refine ⟨by rw [up2_i (by omega)]; exact h30, fun z => absurd z (by omega), fun _ => ⟨by rw [up2_i (by omega), h29, e3], fun z => absurd hl (ltr_nd z), fun _ => ⟨up2_same _ _ _ _, by rw [up2_i (by omega), h32, e3, show q0 + k - q0 = k by omega]⟩, fun _ z => absurd hl z⟩⟩⟩
    | succ m ih =>
      intro k I1 x1 hm hq h29 h30 h32 hF he hq0 hl hp0
      have hz1 := MZ_go hz hF (fun b j z => by unfold aP at z; omega)
      refine j_aload_n C (D 70 rfl) rfl ?_
      refine j_aload_n C (D 71 rfl) rfl ?_
      refine j_geti C f_X12_113 (lit (kd := 12) (n := 48) rfl) rfl rfl (D 72 rfl) ?_
      rw [h29]
      refine j_cVp C B k_X12_116 (rc_obj C (lit (kd := 12) (n := 48) rfl) rfl rfl) (d_see _ _ hL hb hz1 (q0 + k) (by omega)) rfl rfl rfl rfl ⟨Nat.le_refl _, Nat.le_refl _⟩ (D 73 rfl) ?_
      refine j_i2l C (D 74 rfl) ?_
      refine j_ldc2_w C (v := 48) (D 75 rfl) n_X12_130 ?_
      refine j_ldc2_w C (v := 57) (D 76 rfl) n_X12_132 ?_
      refine j_cSp C B k_X12_99 (d_in _ _ _ _ _ _) rfl rfl rfl rfl ⟨Nat.le_refl _, Nat.le_refl _⟩ (D 77 rfl) ?_
      refine j_if_eq C  206 (D 78 rfl) (by decide) (fun h162 => ?_) (fun h162 => ?_)
      · refine j_aload_n C (D 101 rfl) rfl ?_
        refine j_iconst C (v := nI 2) (D 102 rfl) rfl ?_
        refine j_puti C f_X12_123 (lit (kd := 12) (n := 48) rfl) rfl rfl (D 103 rfl) ?_
        refine j_goto C 234 (D 104 rfl) (by decide) ?_
        exact j_vret C P rfl (D 117 rfl) ⟨Nat.le_refl _, Nat.le_refl _⟩ ⟨rfl, _, rfl, Fx.up hF ⟨rfl, by omega, by omega⟩, by
  refine MSof _ (Fx.up hF ⟨rfl, by omega, by omega⟩) ?_
  rw [← hp0]
  have e3 : ten f n q0 = q0 + k := by rw [← he, rn_f (g := fun k => dgt (f k)) (fun z => b2_eq h162 ((in_d hb).mpr ⟨by omega, z⟩))]
  refine ⟨by rw [up2_i (by omega)]; exact h30, fun z => absurd z (by omega), fun _ => ⟨by rw [up2_i (by omega), h29, e3], fun z => absurd hl (ltr_nd z), fun _ => ⟨up2_same _ _ _ _, by rw [up2_i (by omega), h32, e3, show q0 + k - q0 = k by omega]⟩, fun _ z => absurd hl z⟩⟩⟩
      · obtain ⟨d, hd9, hd, hd2⟩ := dgt_n ((in_d hb).mp (b2_ne h162)).2
        refine j_aload_n C (D 79 rfl) rfl ?_
        refine j_ldc C (v := 9999999) (D 80 rfl) n_X12_137 ?_
        refine j_bipush C (v := nI 10) (D 81 rfl) rfl ?_
        refine j_aload_n C (D 82 rfl) rfl ?_
        refine j_geti C f_X12_134 (lit (kd := 12) (n := 48) rfl) rfl rfl (D 83 rfl) ?_
        rw [h32]
        refine j_imul C (D 84 rfl) ?_
        rw [pk_mul, Nat.mul_comm]
        refine j_aload_n C (D 85 rfl) rfl ?_
        refine j_aload_n C (D 86 rfl) rfl ?_
        refine j_geti C f_X12_113 (lit (kd := 12) (n := 48) rfl) rfl rfl (D 87 rfl) ?_
        rw [h29]
        refine j_cVp C B k_X12_116 (rc_obj C (lit (kd := 12) (n := 48) rfl) rfl rfl) (d_see _ _ hL hb hz1 (q0 + k) (by omega)) rfl rfl rfl rfl ⟨Nat.le_refl _, Nat.le_refl _⟩ (D 88 rfl) ?_
        rw [sv_d hb (by omega) hd9 hd]
        refine j_iadd C (D 89 rfl) ?_
        refine j_bipush C (v := nI 48) (D 90 rfl) rfl ?_
        refine j_isub C (D 91 rfl) ?_
        refine j_mmin C B k_X12_138 rfl rfl ⟨Nat.le_refl _, Nat.le_refl _⟩ (D 92 rfl) ?_
        rw [show (9999999 : Int32) = nI 9999999 from rfl, num_step hd9 (by omega), show 10 * vlN f q0 k + d = vlN f q0 (k + 1) from by rw [vlN, hd2]]
        refine j_puti C f_X12_134 (lit (kd := 12) (n := 48) rfl) rfl rfl (D 93 rfl) ?_
        refine j_aload_n C (D 94 rfl) rfl ?_
        refine j_dup C (D 95 rfl) rfl ?_
        refine j_geti C f_X12_113 (lit (kd := 12) (n := 48) rfl) rfl rfl (D 96 rfl) ?_
        rw [up2_i (by omega), h29]
        refine j_iconst C (v := nI 1) (D 97 rfl) rfl ?_
        refine j_iadd C (D 98 rfl) ?_
        rw [nI_add]
        refine j_puti C f_X12_113 (lit (kd := 12) (n := 48) rfl) rfl rfl (D 99 rfl) ?_
        refine j_goto C 144 (D 100 rfl) (by decide) ?_
        exact ih (k + 1) _ _ (by omega) (by omega) (up2_same _ _ _ _) (by rw [up2_i (by omega), up2_i (by omega)]; exact h30) (by rw [up2_i (by omega), up2_same]) (Fx.up (Fx.up hF ⟨rfl, by omega, by omega⟩) ⟨rfl, by omega, by omega⟩) (by rw [← he, rn_t (g := fun k => dgt (f k)) (by omega) ((in_d hb).mp (b2_ne h162)).2]; rfl) hq0 hl hp0
  have L39 : ∀ (q : Nat) (I1 : Nat → Nat → Int32) (x1 : Option Value), q ≤ n → q = skp f n p0 → I1 172 29 = nI q → Fx aP I I1 → J Z (0, 0) 39 [some (.ref (ra G 172)), x1] [] (wd I1 L R) := by
    intro q I1 x1 hq hp0 h29 hF
    have hF2 : Fx aP I (up2 I1 172 30 (nI q)) := Fx.up hF ⟨rfl, by omega, by omega⟩
    have hz2 := MZ_go hz hF2 (fun b j z => by unfold aP at z; omega)
    refine j_aload_n C (D 19 rfl) rfl ?_
    refine j_aload_n C (D 20 rfl) rfl ?_
    refine j_geti C f_X12_113 (lit (kd := 12) (n := 48) rfl) rfl rfl (D 21 rfl) ?_
    rw [h29]
    refine j_puti C f_X12_120 (lit (kd := 12) (n := 48) rfl) rfl rfl (D 22 rfl) ?_
    refine j_aload_n C (D 23 rfl) rfl ?_
    refine j_aload_n C (D 24 rfl) rfl ?_
    refine j_geti C f_X12_113 (lit (kd := 12) (n := 48) rfl) rfl rfl (D 25 rfl) ?_
    rw [up2_i (by omega), h29]
    refine j_cVp C B k_X12_116 (rc_obj C (lit (kd := 12) (n := 48) rfl) rfl rfl) (d_see _ _ hL hb hz2 q (by omega)) rfl rfl rfl rfl ⟨Nat.le_refl _, Nat.le_refl _⟩ (D 26 rfl) ?_
    refine j_istore_n C (D 27 rfl) rfl ?_
    refine j_iload_n C (D 28 rfl) rfl ?_
    refine j_iconst C (v := (-1)) (D 29 rfl) (by decide) ?_
    refine j_icmp_ne C  69 (D 30 rfl) (by decide) (fun h58 => ?_) (fun h58 => ?_)
    · have hqn : q < n := by
        by_cases z : q < n
        · exact z
        · exact absurd ((sv_end hb).mpr z) h58
      refine j_iload_n C (D 35 rfl) rfl ?_
      refine j_i2l C (D 36 rfl) ?_
      refine j_ldc2_w C (v := 97) (D 37 rfl) n_X12_126 ?_
      refine j_ldc2_w C (v := 122) (D 38 rfl) n_X12_128 ?_
      refine j_cSp C B k_X12_99 (d_in _ _ _ _ _ _) rfl rfl rfl rfl ⟨Nat.le_refl _, Nat.le_refl _⟩ (D 39 rfl) ?_
      refine j_if_eq C  125 (D 40 rfl) (by decide) (fun h80 => ?_) (fun h80 => ?_)
      · refine j_iload_n C (D 61 rfl) rfl ?_
        refine j_i2l C (D 62 rfl) ?_
        refine j_ldc2_w C (v := 48) (D 63 rfl) n_X12_130 ?_
        refine j_ldc2_w C (v := 57) (D 64 rfl) n_X12_132 ?_
        refine j_cSp C B k_X12_99 (d_in _ _ _ _ _ _) rfl rfl rfl rfl ⟨Nat.le_refl _, Nat.le_refl _⟩ (D 65 rfl) ?_
        refine j_if_eq C  214 (D 66 rfl) (by decide) (fun h136 => ?_) (fun h136 => ?_)
        · refine j_aload_n C (D 105 rfl) rfl ?_
          refine j_iconst C (v := nI 3) (D 106 rfl) rfl ?_
          refine j_puti C f_X12_123 (lit (kd := 12) (n := 48) rfl) rfl rfl (D 107 rfl) ?_
          refine j_aload_n C (D 108 rfl) rfl ?_
          refine j_iload_n C (D 109 rfl) rfl ?_
          refine j_puti C f_X12_134 (lit (kd := 12) (n := 48) rfl) rfl rfl (D 110 rfl) ?_
          refine j_aload_n C (D 111 rfl) rfl ?_
          refine j_dup C (D 112 rfl) rfl ?_
          refine j_geti C f_X12_113 (lit (kd := 12) (n := 48) rfl) rfl rfl (D 113 rfl) ?_
          rw [up2_i (by omega), up2_i (by omega), up2_i (by omega), h29]
          refine j_iconst C (v := nI 1) (D 114 rfl) rfl ?_
          refine j_iadd C (D 115 rfl) ?_
          rw [nI_add]
          refine j_puti C f_X12_113 (lit (kd := 12) (n := 48) rfl) rfl rfl (D 116 rfl) ?_
          exact j_vret C P rfl (D 117 rfl) ⟨Nat.le_refl _, Nat.le_refl _⟩ ⟨rfl, _, rfl, Fx.up (Fx.up (Fx.up hF2 ⟨rfl, by omega, by omega⟩) ⟨rfl, by omega, by omega⟩) ⟨rfl, by omega, by omega⟩, by
  refine MSof _ (Fx.up (Fx.up (Fx.up hF2 ⟨rfl, by omega, by omega⟩) ⟨rfl, by omega, by omega⟩) ⟨rfl, by omega, by omega⟩) ?_
  rw [← hp0]
  have n1 : ¬ ltr (f q) = true := fun z => b2_eq h80 ((in_l hb).mpr ⟨hqn, z⟩)
  have n2 : ¬ dgt (f q) = true := fun z => b2_eq h136 ((in_d hb).mpr ⟨hqn, z⟩)
  refine ⟨by rw [up2_i (by omega), up2_i (by omega), up2_i (by omega), up2_same], fun z => absurd z (by omega), fun _ => ⟨by rw [up2_same, ten, if_neg n1, if_neg n2], fun z => absurd z n1, fun z => absurd z n2, fun _ _ => ⟨by rw [up2_i (by omega), up2_i (by omega), up2_same], by rw [up2_i (by omega), up2_same]; unfold sv; rw [if_pos hqn]⟩⟩⟩⟩
        · refine j_aload_n C (D 67 rfl) rfl ?_
          refine j_iconst C (v := nI 0) (D 68 rfl) rfl ?_
          refine j_puti C f_X12_134 (lit (kd := 12) (n := 48) rfl) rfl rfl (D 69 rfl) ?_
          exact L14 q _ 0 _ _ rfl hq (by rw [up2_i (by omega), up2_i (by omega)]; exact h29) (by rw [up2_i (by omega), up2_same]) (by rw [up2_same]; rfl) (Fx.up hF2 ⟨rfl, by omega, by omega⟩) (by rw [ten, if_neg (fun z => b2_eq h80 ((in_l hb).mpr ⟨hqn, z⟩)), if_pos ((in_d hb).mp (b2_ne h136)).2]; exact rn_t (g := fun k => dgt (f k)) hqn ((in_d hb).mp (b2_ne h136)).2) hqn ((in_d hb).mp (b2_ne h136)).2 hp0
      · exact L8 q _ q _ _ rfl (Nat.le_refl _) hq (by rw [up2_i (by omega)]; exact h29) (up2_same _ _ _ _) hF2 (by rw [ten, if_pos ((in_l hb).mp (b2_ne h80)).2]; exact rn_t (g := fun k => ltr (f k)) hqn ((in_l hb).mp (b2_ne h80)).2) hqn ((in_l hb).mp (b2_ne h80)).2 hp0
    · refine j_aload_n C (D 31 rfl) rfl ?_
      refine j_iconst C (v := nI 0) (D 32 rfl) rfl ?_
      refine j_puti C f_X12_123 (lit (kd := 12) (n := 48) rfl) rfl rfl (D 33 rfl) ?_
      refine j_goto C 234 (D 34 rfl) (by decide) ?_
      exact j_vret C P rfl (D 117 rfl) ⟨Nat.le_refl _, Nat.le_refl _⟩ ⟨rfl, _, rfl, Fx.up hF2 ⟨rfl, by omega, by omega⟩, by
  refine MSof _ (Fx.up hF2 ⟨rfl, by omega, by omega⟩) ?_
  have e3 : q = n := by have := (sv_end hb).mp h58; omega
  rw [← hp0]
  refine ⟨by rw [up2_i (by omega), up2_same], fun _ => ⟨up2_same _ _ _ _, by rw [up2_i (by omega), up2_i (by omega), h29, e3]⟩, fun z => absurd z (by omega)⟩⟩
  have L0 : ∀ m q (I1 : Nat → Nat → Int32), n - q = m → q ≤ n → I1 172 29 = nI q → Fx aP I I1 → skp f n q = skp f n p0 → J Z (0, 0) 0 [some (.ref (ra G 172)), none] [] (wd I1 L R) := by
    intro m
    induction m with
    | zero =>
      intro q I1 hm hq h29 hF he
      have hz1 := MZ_go hz hF (fun b j z => by unfold aP at z; omega)
      have hqn : q = n := by omega
      refine j_aload_n C (D 0 rfl) rfl ?_
      refine j_aload_n C (D 1 rfl) rfl ?_
      refine j_geti C f_X12_113 (lit (kd := 12) (n := 48) rfl) rfl rfl (D 2 rfl) ?_
      rw [h29]
      refine j_cVp C B k_X12_116 (rc_obj C (lit (kd := 12) (n := 48) rfl) rfl rfl) (d_see _ _ hL hb hz1 q (by omega)) rfl rfl rfl rfl ⟨Nat.le_refl _, Nat.le_refl _⟩ (D 3 rfl) ?_
      refine j_bipush C (v := nI 32) (D 4 rfl) rfl ?_
      refine j_icmp_eq C  26 (D 5 rfl) (by decide) (fun h10 => absurd h10 (fun z => by have := ((sv_eq hb (v := 32) (by omega)).mp z).1; omega)) (fun h10 => ?_)
      refine j_aload_n C (D 6 rfl) rfl ?_
      refine j_aload_n C (D 7 rfl) rfl ?_
      refine j_geti C f_X12_113 (lit (kd := 12) (n := 48) rfl) rfl rfl (D 8 rfl) ?_
      rw [h29]
      refine j_cVp C B k_X12_116 (rc_obj C (lit (kd := 12) (n := 48) rfl) rfl rfl) (d_see _ _ hL hb hz1 q (by omega)) rfl rfl rfl rfl ⟨Nat.le_refl _, Nat.le_refl _⟩ (D 9 rfl) ?_
      refine j_bipush C (v := nI 10) (D 10 rfl) rfl ?_
      refine j_icmp_ne C  39 (D 11 rfl) (by decide) (fun h23 => ?_) (fun h23 => absurd h23 (fun z => by have := ((sv_eq hb (v := 10) (by omega)).mp z).1; omega))
      exact L39 q I1 _ hq (by rw [← he]; unfold skp; rw [rn_e (by omega)]) h29 hF
    | succ m ih =>
      intro q I1 hm hq h29 hF he
      have hz1 := MZ_go hz hF (fun b j z => by unfold aP at z; omega)
      refine j_aload_n C (D 0 rfl) rfl ?_
      refine j_aload_n C (D 1 rfl) rfl ?_
      refine j_geti C f_X12_113 (lit (kd := 12) (n := 48) rfl) rfl rfl (D 2 rfl) ?_
      rw [h29]
      refine j_cVp C B k_X12_116 (rc_obj C (lit (kd := 12) (n := 48) rfl) rfl rfl) (d_see _ _ hL hb hz1 q (by omega)) rfl rfl rfl rfl ⟨Nat.le_refl _, Nat.le_refl _⟩ (D 3 rfl) ?_
      refine j_bipush C (v := nI 32) (D 4 rfl) rfl ?_
      refine j_icmp_eq C  26 (D 5 rfl) (by decide) (fun h10 => ?_) (fun h10 => ?_)
      · refine j_aload_n C (D 12 rfl) rfl ?_
        refine j_dup C (D 13 rfl) rfl ?_
        refine j_geti C f_X12_113 (lit (kd := 12) (n := 48) rfl) rfl rfl (D 14 rfl) ?_
        rw [h29]
        refine j_iconst C (v := nI 1) (D 15 rfl) rfl ?_
        refine j_iadd C (D 16 rfl) ?_
        rw [nI_add]
        refine j_puti C f_X12_113 (lit (kd := 12) (n := 48) rfl) rfl rfl (D 17 rfl) ?_
        refine j_goto C 0 (D 18 rfl) (by decide) ?_
        have hbk : blk (f q) = true := decide_eq_true_iff.mpr (Or.inl ((sv_eq hb (v := 32) (by omega)).mp h10).2)
        exact ih (q + 1) _ (by omega) (by omega) (up2_same _ _ _ _) (Fx.up hF ⟨rfl, by omega, by omega⟩) (by rw [← he]; unfold skp; rw [rn_t (g := fun k => blk (f k)) (by omega) hbk])
      · refine j_aload_n C (D 6 rfl) rfl ?_
        refine j_aload_n C (D 7 rfl) rfl ?_
        refine j_geti C f_X12_113 (lit (kd := 12) (n := 48) rfl) rfl rfl (D 8 rfl) ?_
        rw [h29]
        refine j_cVp C B k_X12_116 (rc_obj C (lit (kd := 12) (n := 48) rfl) rfl rfl) (d_see _ _ hL hb hz1 q (by omega)) rfl rfl rfl rfl ⟨Nat.le_refl _, Nat.le_refl _⟩ (D 9 rfl) ?_
        refine j_bipush C (v := nI 10) (D 10 rfl) rfl ?_
        refine j_icmp_ne C  39 (D 11 rfl) (by decide) (fun h23 => ?_) (fun h23 => ?_)
        · exact L39 q I1 _ hq (by
            rw [← he]
            unfold skp
            rw [rn_f (g := fun k => blk (f k)) (fun z => by
              rcases decide_eq_true_iff.mp z with y | y
              · exact h10 ((sv_eq hb (by omega)).mpr ⟨by omega, y⟩)
              · exact h23 ((sv_eq hb (by omega)).mpr ⟨by omega, y⟩))]) h29 hF
        · refine j_aload_n C (D 12 rfl) rfl ?_
          refine j_dup C (D 13 rfl) rfl ?_
          refine j_geti C f_X12_113 (lit (kd := 12) (n := 48) rfl) rfl rfl (D 14 rfl) ?_
          rw [h29]
          refine j_iconst C (v := nI 1) (D 15 rfl) rfl ?_
          refine j_iadd C (D 16 rfl) ?_
          rw [nI_add]
          refine j_puti C f_X12_113 (lit (kd := 12) (n := 48) rfl) rfl rfl (D 17 rfl) ?_
          refine j_goto C 0 (D 18 rfl) (by decide) ?_
          have hbk : blk (f q) = true := decide_eq_true_iff.mpr (Or.inr ((sv_eq hb (v := 10) (by omega)).mp h23).2)
          exact ih (q + 1) _ (by omega) (by omega) (up2_same _ _ _ _) (Fx.up hF ⟨rfl, by omega, by omega⟩) (by rw [← he]; unfold skp; rw [rn_t (g := fun k => blk (f k)) (by omega) hbk])
  exact L0 _ p0 I rfl hp h29 (Fx.rf _ _) rfl
/-- from one TOKEN to the next -/
theorem d_advance (l : Launch) (G : GT) {I : Nat → Nat → Int32} {L : Nat → Nat → Int64} {R : Nat → Nat → Option Nat} (hL : Lay R) {f : Nat → Int32} {n : Nat} (hb : BY f n) {i : Nat} (hS : MS I f n i) (hlt : spo f n i < n) : Mt l G mX12_advance (1) 0 0 [.ref (ra G 172)] (wd I L R) (fun r w' => r = none ∧ ∃ I', w' = wd I' L R ∧ Fx aP I I' ∧ MS I' f n (i + 1)) := by
  exact d_advance0 l G hL hb hS.1 (ten f n (spo f n i)) (ten_rng f hlt).2 (hS.2.2.2 hlt).1 (spo_s hlt).symm
