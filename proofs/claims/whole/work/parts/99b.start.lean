/-! THE START: what the tables and the premises say of constants and classes -/
theorem inL {i : Nat} {w : Cond} (h : decide (nth lw_tbl i = some w) = true) : w ∈ lw_tbl := nth_mem (of_decide_eq_true h)
def nrL : List Cond := flatC (Jvm.Cond.and given_1 narrow_1)
theorem inN {i : Nat} {w : Cond} (h : decide (nth nrL i = some w) = true) : w ∈ nrL := nth_mem (of_decide_eq_true h)
def sgT (i : Nat) : Term := .static "TenTrials$Sign" (sgL.getD i "") "LTenTrials$Sign;"
def vsT : Term := .static "TenTrials$Sign" "$VALUES" "[LTenTrials$Sign;"
def stq (i : Nat) : String × Nat × String × List Int32 := stL.getD i ("", 0, "", [])
def stT (i : Nat) : Term := .string (stq i).1 (stq i).2.1
theorem n_lay : ∀ i, i < 42 → decide (nth lw_tbl (List.getD [661, 673, 671, 683, 718, 720, 712, 714, 716, 694, 722, 728, 730, 732, 734, 740, 815, 828, 839, 845, 809, 807, 754, 785, 795, 791, 793, 847, 704, 706, 801, 803, 805, 797, 799, 765, 771, 781, 783, 572, 637, 642] i 0) = some (Cond.laysStatic "TenTrials$Sign" (sgL.getD i "") "LTenTrials$Sign;")) = true := by decide +kernel
theorem n_ex : ∀ i, i < 42 → decide (nth nrL (List.getD [65, 71, 68, 74, 95, 98, 86, 89, 92, 77, 101, 104, 107, 110, 113, 116, 167, 170, 173, 176, 164, 161, 119, 134, 143, 137, 140, 179, 80, 83, 152, 155, 158, 146, 149, 122, 125, 128, 131, 51, 59, 62] i 0) = some (Cond.exactly (sgT i) "TenTrials$Sign")) = true := by decide +kernel
theorem n_od : ∀ i, i < 42 → decide (nth nrL (List.getD [66, 72, 69, 75, 96, 99, 87, 90, 93, 78, 102, 105, 108, 111, 114, 117, 168, 171, 174, 177, 165, 162, 120, 135, 144, 138, 141, 180, 81, 84, 153, 156, 159, 147, 150, 123, 126, 129, 132, 52, 60, 63] i 0) = some (Cond.eq (.field (sgT i) "java/lang/Enum" "ordinal" "I") (.int (Int32.ofNat i)))) = true := by decide +kernel
theorem n_sp : ∀ i, i < 42 → decide (nth nrL (List.getD [67, 73, 70, 76, 97, 100, 88, 91, 94, 79, 103, 106, 109, 112, 115, 118, 169, 172, 175, 178, 166, 163, 121, 136, 145, 139, 142, 181, 82, 85, 154, 157, 160, 148, 151, 124, 127, 130, 133, 53, 61, 64] i 0) = some (Cond.eq (.field (sgT i) "TenTrials$Sign" "spelling" "Ljava/lang/String;") (stT (spl i)))) = true := by decide +kernel
theorem n_el : ∀ i, i < 42 → decide (nth nrL (List.getD [9, 10, 11, 12, 13, 14, 15, 16, 17, 18, 19, 20, 21, 22, 23, 24, 25, 26, 27, 28, 29, 30, 31, 32, 33, 34, 35, 36, 37, 38, 39, 40, 41, 42, 43, 44, 45, 46, 47, 48, 49, 50] i 0) = some (Cond.eq (.elem vsT (.int (Int32.ofNat i))) (sgT i))) = true := by decide +kernel
theorem n_sx : ∀ i, i < 67 → decide (nth nrL (List.getD [221, 230, 239, 246, 254, 262, 272, 280, 289, 295, 305, 312, 320, 328, 336, 345, 353, 360, 370, 379, 387, 396, 403, 409, 420, 428, 436, 442, 446, 456, 466, 474, 483, 493, 498, 503, 512, 523, 532, 539, 550, 558, 567, 576, 585, 595, 604, 612, 617, 622, 627, 632, 643, 652, 662, 672, 677, 682, 687, 692, 697, 705, 712, 724, 733, 742, 749] i 0) = some (Cond.exactly (stT i) "java/lang/String")) = true := by decide +kernel
theorem n_sc : ∀ i, i < 67 → decide (nth nrL (List.getD [222, 231, 240, 247, 255, 263, 273, 281, 290, 296, 306, 313, 321, 329, 337, 346, 354, 361, 371, 380, 388, 397, 404, 410, 421, 429, 437, 443, 447, 457, 467, 475, 484, 494, 499, 504, 513, 524, 533, 540, 551, 559, 568, 577, 586, 596, 605, 613, 618, 623, 628, 633, 644, 653, 663, 673, 678, 683, 688, 693, 698, 706, 713, 725, 734, 743, 750] i 0) = some (Cond.eq (.field (stT i) "java/lang/String" "coder" "B") (.int 0))) = true := by decide +kernel
theorem n_sa : ∀ i, i < 67 → decide (nth nrL (List.getD [223, 232, 241, 248, 256, 264, 274, 282, 291, 297, 307, 314, 322, 330, 338, 347, 355, 362, 372, 381, 389, 398, 405, 411, 422, 430, 438, 444, 448, 458, 468, 476, 485, 495, 500, 505, 514, 525, 534, 541, 552, 560, 569, 578, 587, 597, 606, 614, 619, 624, 629, 634, 645, 654, 664, 674, 679, 684, 689, 694, 699, 707, 714, 726, 735, 744, 751] i 0) = some (Cond.arrayOf (.field (stT i) "java/lang/String" "value" "[B") .byte)) = true := by decide +kernel
theorem n_sl : ∀ i, i < 67 → decide (nth nrL (List.getD [224, 233, 242, 249, 257, 265, 275, 283, 292, 298, 308, 315, 323, 331, 339, 348, 356, 363, 373, 382, 390, 399, 406, 412, 423, 431, 439, 445, 449, 459, 469, 477, 486, 496, 501, 506, 515, 526, 535, 542, 553, 561, 570, 579, 588, 598, 607, 615, 620, 625, 630, 635, 646, 655, 665, 675, 680, 685, 690, 695, 700, 708, 715, 727, 736, 745, 752] i 0) = some (Cond.eq (.length (.field (stT i) "java/lang/String" "value" "[B")) (.int (Int32.ofNat (stLen i))))) = true := by decide +kernel
def seL : List (List Nat) := [[225, 226, 227, 228, 229], [234, 235, 236, 237, 238], [243, 244, 245], [250, 251, 252, 253], [258, 259, 260, 261], [266, 267, 268, 269, 270, 271], [276, 277, 278, 279], [284, 285, 286, 287, 288], [293, 294], [299, 300, 301, 302, 303, 304], [309, 310, 311], [316, 317, 318, 319], [324, 325, 326, 327], [332, 333, 334, 335], [340, 341, 342, 343, 344], [349, 350, 351, 352], [357, 358, 359], [364, 365, 366, 367, 368, 369], [374, 375, 376, 377, 378], [383, 384, 385, 386], [391, 392, 393, 394, 395], [400, 401, 402], [407, 408], [413, 414, 415, 416, 417, 418, 419], [424, 425, 426, 427], [432, 433, 434, 435], [440, 441], [], [450, 451, 452, 453, 454], [460, 461, 462, 463, 464], [470, 471, 472], [478, 479, 480, 481], [487, 488, 489, 490, 491], [497], [502], [507, 508, 509, 510], [516, 517, 518, 519, 520, 521], [527, 528, 529, 530], [536, 537], [543, 544, 545, 546, 547, 548], [554, 555, 556], [562, 563, 564, 565], [571, 572, 573, 574], [580, 581, 582, 583], [589, 590, 591, 592, 593], [599, 600, 601, 602], [608, 609, 610], [616], [621], [626], [631], [636, 637, 638, 639, 640, 641], [647, 648, 649, 650], [656, 657, 658, 659, 660], [666, 667, 668, 669, 670], [676], [681], [686], [691], [696], [701, 702, 703], [709, 710], [716, 717, 718, 719, 720, 721, 722], [728, 729, 730, 731], [737, 738, 739, 740], [746, 747], [753]]
theorem n_se : ∀ i, i < 67 → ∀ j, j < stLen i → decide (nth nrL ((seL.getD i []).getD j 0) = some (Cond.eq (.elem (.field (stT i) "java/lang/String" "value" "[B") (.int (Int32.ofNat j))) (.int (stByt i j)))) = true := by decide +kernel
theorem n_sr : ∀ i, i < 67 → decide (nth lw_tbl (List.getD [1524, 1539, 1540, 1541, 1555, 1556, 1557, 1558, 1576, 1577, 1578, 1583, 1584, 1585, 1586, 1591, 1604, 1621, 1622, 1623, 1624, 1625, 1626, 1627, 1628, 1629, 1630, 1998, 1999, 2000, 2001, 2002, 2003, 2004, 2005, 2006, 2007, 2008, 2009, 2010, 2011, 2012, 2013, 2014, 2015, 2016, 2017, 2018, 2019, 2020, 2021, 2022, 2023, 2024, 2025, 2026, 2027, 2028, 2029, 2030, 2031, 2032, 2033, 2034, 2035, 2036, 2037] i 0) = some (Cond.stringRef (stq i).1 (stq i).2.1 (stq i).2.2.1)) = true := by decide +kernel
theorem n_ns : ∀ i, i < 15 → decide (nth lw_tbl (List.getD [144, 160, 166, 215, 248, 378, 403, 457, 480, 690, 824, 837, 976, 1054, 1193] i 0) = (nth nsL i).map (fun q => Cond.methodLinkNest q.1 q.2.1 q.2.2 "TenTrials")) = true := by decide +kernel
theorem spl_lt : ∀ i, i < 42 → spl i < 67 := by decide +kernel

section START
variable {args : Array Value} {s : State} {A : Nat → Prop}
theorem pick {α : Type} (d : α) {n : Nat} {P : Nat → α → Prop} (h : ∀ i, i < n → ∃ t, P i t) : ∃ f : Nat → α, ∀ i, i < n → P i (f i) :=
  ⟨fun i => if hi : i < n then Classical.choose (h i hi) else d, fun i hi => by simp only [dif_pos hi]; exact Classical.choose_spec (h i hi)⟩
theorem sg_start (hts : ∀ w ∈ lw_tbl, w.before args s = true) (hn : ∀ w ∈ nrL, w.before args s = true) (hA : ∀ a : Nat, a < s.heap.size → ¬ A a) : ∃ ad : Nat → Nat, ∀ i, i < 42 → (sgT i).eval args s none [] s = some (.ref (ad i)) ∧ va_Z "TenTrials$Sign" (sgL.getD i "") "LTenTrials$Sign;" (.ref (ad i)) A s s.heap ∧ va_O "TenTrials$Sign" (ad i) A s s.heap := by
  refine pick 0 (P := fun i t => (sgT i).eval args s none [] s = some (.ref t) ∧ va_Z "TenTrials$Sign" (sgL.getD i "") "LTenTrials$Sign;" (.ref t) A s s.heap ∧ va_O "TenTrials$Sign" t A s s.heap) (fun i hi => ?_)
  obtain ⟨t, _, box, _, named, cl, there, _, plain, ofC, _⟩ := Cond.exactly_spec (hn _ (inN (n_ex i hi)))
  refine ⟨t, named, va_Zof (hts _ (inL (n_lay i hi))) (hts _ (inL (i := 119) (by decide +kernel))) named hA, box, there, plain, ?_, hA t (Array.getElem?_eq_some_iff.mp there).1⟩
  rw [ofC]
  exact cl
theorem st_start (hn : ∀ w ∈ nrL, w.before args s = true) (hA : ∀ a : Nat, a < s.heap.size → ¬ A a) : ∃ ad : Nat → Nat × Nat, ∀ i, i < 67 → (stT i).eval args s none [] s = some (.ref (ad i).1) ∧ va_O "java/lang/String" (ad i).1 A s s.heap ∧ va_OF "java/lang/String" "coder" "B" (.int 0) (ad i).1 A s s.heap ∧ va_OF "java/lang/String" "value" "[B" (.ref (ad i).2) (ad i).1 A s s.heap ∧ va_T .byte (ad i).2 (stLen i) (fun j => .int (stByt i j)) A s s.heap := by
  have hl31 : ∀ i, i < 67 → stLen i < 2 ^ 31 := by decide +kernel
  refine pick (0, 0) (P := fun i t => (stT i).eval args s none [] s = some (.ref t.1) ∧ va_O "java/lang/String" t.1 A s s.heap ∧ va_OF "java/lang/String" "coder" "B" (.int 0) t.1 A s s.heap ∧ va_OF "java/lang/String" "value" "[B" (.ref t.2) t.1 A s s.heap ∧ va_T .byte t.2 (stLen i) (fun j => .int (stByt i j)) A s s.heap) (fun i hi => ?_)
  obtain ⟨a, _, box, _, named, cl, there, _, plain, ofC, _⟩ := Cond.exactly_spec (hn _ (inN (n_sx i hi)))
  obtain ⟨b, field, bytes⟩ := va_Tof (f := fun j => .int (stByt i j)) (A := A) (hl31 i hi) (hn _ (inN (n_sa i hi))) (va_eqt (hn _ (inN (n_sl i hi)))) (fun j hj => va_eqt (hn _ (inN (n_se i hi j hj)))) hA
  refine ⟨(a, b), named, ⟨box, there, plain, ?_, hA a (Array.getElem?_eq_some_iff.mp there).1⟩, ?_, vk_OFof named field hA, bytes⟩
  · rw [ofC]
    exact cl
  · exact vk_OFof named (va_eqt (hn _ (inN (n_sc i hi)))) hA
theorem ar_p {ty : FieldType} (h : (Cond.arrayClass ty).before args s = true) : ∃ c, ArrOfT s c ty ∧ s.vm.findClass ("[" ++ ty.toString) = some c := by
  obtain ⟨c, k, comp, h1, h2, h3⟩ := Cond.arrayClass_spec h
  exact ⟨c, fun n z => ⟨fun k h => (by cases h), k, h2, comp, h3⟩, h1⟩
theorem ar_o {C : String} (h : (Cond.arrayOver (.object C)).before args s = true) : ∃ c, ArrOfT s c (.object C) ∧ va_RA s c (.object C) := by
  obtain ⟨comp, c, k, h1, h2, h3, h4, h5⟩ := Cond.arrayOver_spec h
  exact ⟨c, fun n z => ⟨fun k h => (by cases h), k, h3, comp, h4⟩, k, comp, h3, h4, h1, h5⟩
theorem ai_start (h : (Cond.arrayOver (.array .int)).before args s = true) : hasAI s := by
  obtain ⟨cR, cO, kO, r, -, ko, kd, o⟩ := arrayOverA_spec h
  refine ⟨cR, cO, kO, ?_, ?_, ko, kd⟩
  · rw [← show (FieldType.array .int).toString = "[I" by decide +kernel]
    exact r
  · rw [← show "[" ++ (FieldType.array .int).toString = "[[I" by decide +kernel]
    exact o
theorem ar_a (h : (Cond.arrayOver (.array .int)).before args s = true) : ∃ c, ArrOfT s c (.array .int) ∧ s.vm.findClass ("[" ++ (FieldType.array .int).toString) = some c := by
  obtain ⟨comp, c, k, h1, h2, h3, h4, h5⟩ := arrayOverA_spec h
  exact ⟨c, fun n z => ⟨fun k h => (by cases h), k, h3, comp, h4⟩, h5⟩
theorem len_42 {t : Term} {n : Nat} {a : Nat} {cell : Cell} (h : (Term.length t).eval args s none [] s = some (.int (Int32.ofNat n))) (hn : n < 2 ^ 31) (ht : t.eval args s none [] s = some (.ref a)) (hc : s.heap[a]? = some cell) : cell.slots.size = n := by
  obtain ⟨b, cell', ht', harr, -⟩ := Term.length_spec h
  cases ht.symm.trans ht'
  obtain ⟨hcell, -, -, -⟩ := State.arrayAt?_spec harr
  cases hc.symm.trans hcell
  simp only [Term.eval, ht, harr, Option.bind_eq_bind, Option.bind_some] at h
  by_cases hlt : cell.slots.size < 2147483648
  · simp [hlt] at h
    have h2 : (Int32.ofNat cell.slots.size).toInt = (Int32.ofNat n).toInt := congrArg Int32.toInt h
    rw [Int32.toInt_ofNat_small hlt, Int32.toInt_ofNat_small hn] at h2
    omega
  · simp [hlt] at h
end START

theorem nth_get {α : Type} : ∀ (l : List α) (i : Nat), nth l i = l[i]?
  | [], i => by simp [nth]
  | x :: t, 0 => by simp [nth]
  | x :: t, i + 1 => by simp [nth, nth_get t i]
theorem GW_start {args : Array Value} {s : State} (hts : ∀ w ∈ lw_tbl, w.before args s = true) (hn : ∀ w ∈ nrL, w.before args s = true) : ∃ G : GT, gb G = s.heap.size ∧ GW G s := by
  have hA : ∀ a : Nat, a < s.heap.size → ¬ (fun q : Nat => s.heap.size ≤ q) a := fun a h => Nat.not_le.mpr h
  have ht2 : ∀ w ∈ tbl2, w.before args s = true := fun w hw => hts w (List.mem_filter.mp hw).1
  obtain ⟨c0, i0, k0⟩ := u_known (C := RX0) (T := TX0) (N := 8) (n := 8) ht2 us_X0 (hts _ (inL (i := 214) (by decide +kernel)))
  obtain ⟨c1, i1, k1⟩ := u_known (C := RX1) (T := TX1) (N := 8) (n := 8) ht2 us_X1 (hts _ (inL (i := 206) (by decide +kernel)))
  obtain ⟨c2, i2, k2⟩ := u_known (C := RX2) (T := TX2) (N := 5) (n := 5) ht2 us_X2 (hts _ (inL (i := 377) (by decide +kernel)))
  obtain ⟨c3, i3, k3⟩ := u_known (C := RX3) (T := TX3) (N := 2) (n := 2) ht2 us_X3 (hts _ (inL (i := 143) (by decide +kernel)))
  obtain ⟨c4, i4, k4⟩ := u_known (C := RX4) (T := TX4) (N := 8) (n := 8) ht2 us_X4 (hts _ (inL (i := 159) (by decide +kernel)))
  obtain ⟨c5, i5, k5⟩ := u_known (C := RX5) (T := TX5) (N := 9) (n := 9) ht2 us_X5 (hts _ (inL (i := 402) (by decide +kernel)))
  obtain ⟨c6, i6, k6⟩ := u_known (C := RX6) (T := TX6) (N := 3) (n := 3) ht2 us_X6 (hts _ (inL (i := 479) (by decide +kernel)))
  obtain ⟨c8, i8, k8⟩ := u_known (C := RX8) (T := TX8) (N := 6) (n := 6) ht2 us_X8 (hts _ (inL (i := 450) (by decide +kernel)))
  obtain ⟨c9, i9, k9⟩ := u_known (C := RX9) (T := TX9) (N := 5) (n := 5) ht2 us_X9 (hts _ (inL (i := 165) (by decide +kernel)))
  obtain ⟨c10, i10, k10⟩ := u_known (C := RX10) (T := TX10) (N := 9) (n := 9) ht2 us_X10 (hts _ (inL (i := 247) (by decide +kernel)))
  obtain ⟨c11, i11, k11⟩ := u_known (C := RX11) (T := TX11) (N := 12) (n := 12) ht2 us_X11 (hts _ (inL (i := 135) (by decide +kernel)))
  obtain ⟨c12, i12, k12⟩ := u_known (C := RX12) (T := TX12) (N := 48) (n := 48) ht2 us_X12 (hts _ (inL (i := 1333) (by decide +kernel)))
  obtain ⟨dC, dI, hKc⟩ : ∃ (dC : Nat → ClassId) (dI : Nat → Nat → Nat), ∀ (k : Nat) (q : vw_C), cls[k]? = some q → u_Kn s q.1 q.2.1 q.2.2 (dC k) (dI k) := by
    refine ⟨fun k => ([c0, c1, c2, c3, c4, c5, c6, c0, c8, c9, c10, c11, c12] : List ClassId).getD k 0, fun k => ([i0, i1, i2, i3, i4, i5, i6, i0, i8, i9, i10, i11, i12] : List (Nat → Nat)).getD k (fun _ => 0), ?_⟩
    intro k q hq
    match k, hq with
    | 0, hq => cases hq; exact k0
    | 1, hq => cases hq; exact k1
    | 2, hq => cases hq; exact k2
    | 3, hq => cases hq; exact k3
    | 4, hq => cases hq; exact k4
    | 5, hq => cases hq; exact k5
    | 6, hq => cases hq; exact k6
    | 7, hq => cases hq; exact k0
    | 8, hq => cases hq; exact k8
    | 9, hq => cases hq; exact k9
    | 10, hq => cases hq; exact k10
    | 11, hq => cases hq; exact k11
    | 12, hq => cases hq; exact k12
    | k + 13, hq => simp [cls] at hq
  obtain ⟨a0, a0a, a0b⟩ := ar_p (ty := .int) (hts _ (inL (i := 204) (by decide +kernel)))
  obtain ⟨a1, a1a, a1b⟩ := ar_p (ty := .byte) (hts _ (inL (i := 157) (by decide +kernel)))
  obtain ⟨a2, a2a, a2b⟩ := ar_p (ty := .boolean) (hts _ (inL (i := 448) (by decide +kernel)))
  obtain ⟨a3, a3a, a3b⟩ := ar_p (ty := .long) (hts _ (inL (i := 1482) (by decide +kernel)))
  obtain ⟨a4, a4a, a4b⟩ := ar_o (C := "TenTrials$Sign") (hts _ (inL (i := 171) (by decide +kernel)))
  obtain ⟨a5, a5a, a5b⟩ := ar_o (C := "TenTrials$Trial") (hts _ (inL (i := 212) (by decide +kernel)))
  obtain ⟨a6, a6a, a6b⟩ := ar_o (C := "TenTrials$Score") (hts _ (inL (i := 456) (by decide +kernel)))
  obtain ⟨a7, a7a, a7b⟩ := ar_a (hts _ (inL (i := 485) (by decide +kernel)))
  obtain ⟨adE, hE⟩ := sg_start hts hn hA
  obtain ⟨adK, hK⟩ := st_start hn hA
  refine ⟨(s.heap.size, (dC, dI), fun k => ([a0, a1, a2, a3, a4, a5, a6, a7] : List ClassId).getD k 0, adE, fun i => (adK i).1, fun i => (adK i).2), rfl, ⟨hKc, ?_⟩, ?_, ?_, ?_, ?_, ?_, ?_, ?_, ?_, ?_⟩
  · intro k q hq
    match k, hq with
    | 0, hq => cases hq; exact ⟨a0a, a0b⟩
    | 1, hq => cases hq; exact ⟨a1a, a1b⟩
    | 2, hq => cases hq; exact ⟨a2a, a2b⟩
    | 3, hq => cases hq; exact ⟨a3a, a3b⟩
    | 4, hq => cases hq; exact ⟨a4a, a4b⟩
    | 5, hq => cases hq; exact ⟨a5a, a5b⟩
    | 6, hq => cases hq; exact ⟨a6a, a6b⟩
    | 7, hq => cases hq; exact ⟨a7a, a7b⟩
    | k + 8, hq => simp [tysL] at hq
  · intro q hq
    obtain ⟨i, hi⟩ := List.getElem?_of_mem hq
    have hl : i < 15 := (List.getElem?_eq_some_iff.mp hi).1
    have h1 := of_decide_eq_true (n_ns i hl)
    rw [nth_get nsL, hi] at h1
    exact va_Nw.of rfl (hts _ (nth_mem h1))
  · intro i hi
    obtain ⟨q1, q2, q3⟩ := hE i hi
    obtain ⟨r1, -⟩ := hK (spl i) (spl_lt i hi)
    exact ⟨q2, q3, vk_OFof q1 (va_eqv (hn _ (inN (n_sp i hi))) r1) hA⟩
  · intro i j hi hj e
    have e : adE i = adE j := e
    have h1 := va_eqt (hn _ (inN (n_od i hi)))
    have h2 := va_eqt (hn _ (inN (n_od j hj)))
    rw [va_fe (hE i hi).1, e] at h1
    rw [va_fe (hE j hj).1, h1] at h2
    have h3 : (Int32.ofNat i).toInt = (Int32.ofNat j).toInt := congrArg Int32.toInt (Value.int.inj (Option.some.inj h2))
    rw [Int32.toInt_ofNat_small (Nat.lt_trans hi (by decide)), Int32.toInt_ofNat_small (Nat.lt_trans hj (by decide))] at h3
    omega
  · intro i hi
    exact (hK i hi).2
  · intro i q hq
    have hl : i < 67 := (List.getElem?_eq_some_iff.mp hq).1
    have e : stq i = q := by unfold stq; rw [List.getD_eq_getElem?_getD, hq]; rfl
    have h1 := hts _ (inL (n_sr i hl))
    have h2 := (hK i hl).1
    unfold stT at h2
    rw [e] at h1 h2
    exact vk_R.of h1 h2
  · exact va_Zof (hts _ (inL (i := 597) (by decide +kernel))) (hts _ (inL (i := 129) (by decide +kernel))) (va_eqi (hn _ (inN (i := 54) (by decide +kernel)))) hA
  · exact va_Zqof (hts _ (inL (i := 613) (by decide +kernel))) (hts _ (inL (i := 131) (by decide +kernel))) (hn _ (inN (i := 55) (by decide +kernel))) hA
  · obtain ⟨t, c, cell, k, q1, q2, q3, q4, q5, q6, -⟩ := Cond.exactly_spec (t := vsT) (cls := "[LTenTrials$Sign;") (hn _ (inN (i := 5) (by decide +kernel)))
    have hlen := va_eqt (hn (Cond.eq (.length vsT) (.int (Int32.ofNat 42))) (inN (i := 7) (by decide +kernel)))
    obtain ⟨t', ht', hT⟩ := va_Tof (tm := vsT) (ty := .object "TenTrials$Sign") (N := 42) (f := fun j => .ref (adE j)) (A := fun q : Nat => s.heap.size ≤ q) (by decide) (hn _ (inN (i := 6) (by decide +kernel))) hlen (fun j hj => va_eqv (hn _ (inN (n_el j hj))) (hE j hj).1) hA
    cases q1.symm.trans ht'
    refine ⟨t, va_Zof (hts _ (inL (i := 176) (by decide +kernel))) (hts _ (inL (i := 119) (by decide +kernel))) q1 hA, hT, fun cell' hc' => ⟨len_42 hlen (by decide) q1 hc', ?_⟩⟩
    cases q3.symm.trans hc'
    obtain ⟨kA, comp, g1, g2, g3, g4⟩ := a4b
    have e : "[" ++ (FieldType.object "TenTrials$Sign").toString = "[LTenTrials$Sign;" := by decide +kernel
    rw [e] at g4
    show cell.cls = a4
    rw [q6]
    exact Option.some.inj (q2.symm.trans g4)
  · exact ⟨va_AO.of (hts _ (inL (i := 171) (by decide +kernel))), va_AO.of (hts _ (inL (i := 212) (by decide +kernel))), va_AO.of (hts _ (inL (i := 456) (by decide +kernel))), ai_start (hts _ (inL (i := 485) (by decide +kernel))), va_Nw.of rfl (hts _ (inL (i := 182) (by decide +kernel)))⟩
