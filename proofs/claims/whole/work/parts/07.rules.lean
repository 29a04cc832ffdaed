section RULES
variable {Z : ZT} {G : GT} {mi : MI} {own : String} {cs : Nat × Nat} {pc : Nat} {ls : LV} {st : List Value} {w : Wd} {N : Nat} {sh : Nat → Nat × Nat} {I : Nat → Nat → Int32} {L : Nat → Nat → Int64} {R : Nat → Nat → Option Nat}
theorem j_iconst (C : CX Z G mi own) {n : Int} {v : Int32} (hd : decode mi.2.1 pc = .ok (.iconst n, 1)) (hv : Int32.ofInt n = v) (k : J Z cs (pc + 1) ls (.int v :: st) w) : J Z cs pc ls (st) w :=
  fun H locs la hH hS hl => lv_iconst C.1 C.2.1 hd hv (k H locs la hH hS hl)
theorem j_bipush (C : CX Z G mi own) {n : Int} {v : Int32} (hd : decode mi.2.1 pc = .ok (.bipush n, 2)) (hv : (Int8.ofInt n).toInt32 = v) (k : J Z cs (pc + 2) ls (.int v :: st) w) : J Z cs pc ls (st) w :=
  fun H locs la hH hS hl => lv_bipush C.1 C.2.1 hd hv (k H locs la hH hS hl)
theorem j_sipush (C : CX Z G mi own) {n : Int} {v : Int32} (hd : decode mi.2.1 pc = .ok (.sipush n, 3)) (hv : (Int16.ofInt n).toInt32 = v) (k : J Z cs (pc + 3) ls (.int v :: st) w) : J Z cs pc ls (st) w :=
  fun H locs la hH hS hl => lv_sipush C.1 C.2.1 hd hv (k H locs la hH hS hl)
theorem j_lconst (C : CX Z G mi own) {n : Fin 2} {v : Int64} (hd : decode mi.2.1 pc = .ok (.lconst n, 1)) (hv : Int64.ofNat (n : Nat) = v) (k : J Z cs (pc + 1) ls (.long v :: st) w) : J Z cs pc ls (st) w :=
  fun H locs la hH hS hl => lv_lconst C.1 C.2.1 hd hv (k H locs la hH hS hl)
theorem j_ldc (C : CX Z G mi own) {idx : Nat} {v : Int32} (hd : decode mi.2.1 pc = .ok (.ldc idx, 2)) (hc : Cond.constant own idx v ∈ tbl2) (k : J Z cs (pc + 2) ls (.int v :: st) w) : J Z cs pc ls (st) w :=
  fun H locs la hH hS hl => lv_ldc C.1 C.2.1 C.2.2.2.2.2.1 (C.2.2.2.2.2.2.1 _ hc) hd (k H locs la hH hS hl)
theorem j_ldc_w (C : CX Z G mi own) {idx : Nat} {v : Int32} (hd : decode mi.2.1 pc = .ok (.ldc_w idx, 3)) (hc : Cond.constant own idx v ∈ tbl2) (k : J Z cs (pc + 3) ls (.int v :: st) w) : J Z cs pc ls (st) w :=
  fun H locs la hH hS hl => lv_ldcw C.1 C.2.1 C.2.2.2.2.2.1 (C.2.2.2.2.2.2.1 _ hc) hd (k H locs la hH hS hl)
theorem j_ldc2_w (C : CX Z G mi own) {idx : Nat} {v : Int64} (hd : decode mi.2.1 pc = .ok (.ldc2_w idx, 3)) (hc : Cond.constantLong own idx v ∈ tbl2) (k : J Z cs (pc + 3) ls (.long v :: st) w) : J Z cs pc ls (st) w :=
  fun H locs la hH hS hl => lv_ldc2 C.1 C.2.1 C.2.2.2.2.2.1 (C.2.2.2.2.2.2.1 _ hc) hd (k H locs la hH hS hl)
theorem lv_get {la : Array Slot} {nL : Nat} {ls : LV} {i : Nat} {v : Value} (h : lv_has la nL (lvl 0 ls)) (hg : lg ls i = some v) : la[i]? = some (.val v) := by
  have := h.2.2 _ (lvl_lg (i := 0) hg)
  rwa [Nat.zero_add] at this
theorem j_iload_n (C : CX Z G mi own) {k9 : Fin 4} {x : Int32} (hd : decode mi.2.1 pc = .ok (.iload_n k9, 1)) (hg : lg ls k9.val = some (.int x)) (k : J Z cs (pc + 1) ls (.int x :: st) w) : J Z cs pc ls (st) w :=
  fun H locs la hH hS hl => lv_iload_n C.1 C.2.1 hd rfl (lv_get hl hg) (k H locs la hH hS hl)
theorem j_iload (C : CX Z G mi own) {k9 : Nat} {x : Int32} (hd : decode mi.2.1 pc = .ok (.iload k9, 2)) (hg : lg ls k9 = some (.int x)) (k : J Z cs (pc + 2) ls (.int x :: st) w) : J Z cs pc ls (st) w :=
  fun H locs la hH hS hl => lv_iload C.1 C.2.1 hd (lv_get hl hg) (k H locs la hH hS hl)
theorem j_istore_n (C : CX Z G mi own) {k9 : Fin 4} {x : Int32} (hd : decode mi.2.1 pc = .ok (.istore_n k9, 1)) (hn : Nat.ble (k9.val + 1) mi.2.2.1 = true) (k : J Z cs (pc + 1) (lset ls k9.val (.int x)) st w) : J Z cs pc ls (.int x :: st) w :=
  fun H locs la hH hS hl => lv_istore_n C.1 C.2.1 hd rfl hl (by rw [C.2.2.2.2.1]; exact Nat.le_of_ble_eq_true hn) rfl (fun la' hl' => k H locs la' hH hS (lv_s1 hl'))
theorem j_istore (C : CX Z G mi own) {k9 : Nat} {x : Int32} (hd : decode mi.2.1 pc = .ok (.istore k9, 2)) (hn : Nat.ble (k9 + 1) mi.2.2.1 = true) (k : J Z cs (pc + 2) (lset ls k9 (.int x)) st w) : J Z cs pc ls (.int x :: st) w :=
  fun H locs la hH hS hl => lv_istore C.1 C.2.1 hd hl (by rw [C.2.2.2.2.1]; exact Nat.le_of_ble_eq_true hn) rfl (fun la' hl' => k H locs la' hH hS (lv_s1 hl'))
theorem j_lload_n (C : CX Z G mi own) {k9 : Fin 4} {x : Int64} (hd : decode mi.2.1 pc = .ok (.lload_n k9, 1)) (hg : lg ls k9.val = some (.long x)) (k : J Z cs (pc + 1) ls (.long x :: st) w) : J Z cs pc ls (st) w :=
  fun H locs la hH hS hl => lv_lload_n C.1 C.2.1 hd rfl (lv_get hl hg) (k H locs la hH hS hl)
theorem j_lload (C : CX Z G mi own) {k9 : Nat} {x : Int64} (hd : decode mi.2.1 pc = .ok (.lload k9, 2)) (hg : lg ls k9 = some (.long x)) (k : J Z cs (pc + 2) ls (.long x :: st) w) : J Z cs pc ls (st) w :=
  fun H locs la hH hS hl => lv_lload C.1 C.2.1 hd (lv_get hl hg) (k H locs la hH hS hl)
theorem j_lstore_n (C : CX Z G mi own) {k9 : Fin 4} {x : Int64} (hd : decode mi.2.1 pc = .ok (.lstore_n k9, 1)) (hn : Nat.ble (k9.val + 2) mi.2.2.1 = true) (k : J Z cs (pc + 1) (lset2 ls k9.val (.long x)) st w) : J Z cs pc ls (.long x :: st) w :=
  fun H locs la hH hS hl => lv_lstore_n C.1 C.2.1 hd rfl hl (by rw [C.2.2.2.2.1]; exact Nat.le_of_ble_eq_true hn) rfl (fun la' hl' => k H locs la' hH hS (lv_s2 hl'))
theorem j_lstore (C : CX Z G mi own) {k9 : Nat} {x : Int64} (hd : decode mi.2.1 pc = .ok (.lstore k9, 2)) (hn : Nat.ble (k9 + 2) mi.2.2.1 = true) (k : J Z cs (pc + 2) (lset2 ls k9 (.long x)) st w) : J Z cs pc ls (.long x :: st) w :=
  fun H locs la hH hS hl => lv_lstore C.1 C.2.1 hd hl (by rw [C.2.2.2.2.1]; exact Nat.le_of_ble_eq_true hn) rfl (fun la' hl' => k H locs la' hH hS (lv_s2 hl'))
theorem j_aload_n (C : CX Z G mi own) {k9 : Fin 4} {x : Nat} (hd : decode mi.2.1 pc = .ok (.aload_n k9, 1)) (hg : lg ls k9.val = some (.ref x)) (k : J Z cs (pc + 1) ls (.ref x :: st) w) : J Z cs pc ls (st) w :=
  fun H locs la hH hS hl => lv_aload_n C.1 C.2.1 hd rfl (lv_get hl hg) (k H locs la hH hS hl)
theorem j_aload (C : CX Z G mi own) {k9 : Nat} {x : Nat} (hd : decode mi.2.1 pc = .ok (.aload k9, 2)) (hg : lg ls k9 = some (.ref x)) (k : J Z cs (pc + 2) ls (.ref x :: st) w) : J Z cs pc ls (st) w :=
  fun H locs la hH hS hl => lv_aload C.1 C.2.1 hd (lv_get hl hg) (k H locs la hH hS hl)
theorem j_astore_n (C : CX Z G mi own) {k9 : Fin 4} {x : Nat} (hd : decode mi.2.1 pc = .ok (.astore_n k9, 1)) (hn : Nat.ble (k9.val + 1) mi.2.2.1 = true) (k : J Z cs (pc + 1) (lset ls k9.val (.ref x)) st w) : J Z cs pc ls (.ref x :: st) w :=
  fun H locs la hH hS hl => lv_astore_n C.1 C.2.1 hd rfl hl (by rw [C.2.2.2.2.1]; exact Nat.le_of_ble_eq_true hn) rfl (fun la' hl' => k H locs la' hH hS (lv_s1 hl'))
theorem j_astore (C : CX Z G mi own) {k9 : Nat} {x : Nat} (hd : decode mi.2.1 pc = .ok (.astore k9, 2)) (hn : Nat.ble (k9 + 1) mi.2.2.1 = true) (k : J Z cs (pc + 2) (lset ls k9 (.ref x)) st w) : J Z cs pc ls (.ref x :: st) w :=
  fun H locs la hH hS hl => lv_astore C.1 C.2.1 hd hl (by rw [C.2.2.2.2.1]; exact Nat.le_of_ble_eq_true hn) rfl (fun la' hl' => k H locs la' hH hS (lv_s1 hl'))
theorem j_iinc (C : CX Z G mi own) {k9 : Nat} {n : Int} {x v : Int32} (hd : decode mi.2.1 pc = .ok (.iinc k9 n, 3)) (hn : Nat.ble (k9 + 1) mi.2.2.1 = true) (hg : lg ls k9 = some (.int x)) (hv : x + Int32.ofInt n = v) (k : J Z cs (pc + 3) (lset ls k9 (.int v)) st w) : J Z cs pc ls st w := by
  intro H locs la hH hS hl
  have hm := lvl_lg (i := 0) hg
  rw [Nat.zero_add] at hm
  obtain ⟨j, hj⟩ := List.getElem?_of_mem hm
  exact lv_iinc C.1 C.2.1 hd hl hj hv (by rw [C.2.2.2.2.1]; exact Nat.le_of_ble_eq_true hn) rfl (fun la' hl' => k H locs la' hH hS (lv_s1 hl'))
theorem j_iadd (C : CX Z G mi own) {x y : Int32} (hd : decode mi.2.1 pc = .ok (.iadd, 1))  (k : J Z cs (pc + 1) ls (.int (x + y) :: st) w) : J Z cs pc ls (.int y :: .int x :: st) w :=
  fun H locs la hH hS hl => lv_iadd C.1 C.2.1 hd (k H locs la hH hS hl)
theorem j_isub (C : CX Z G mi own) {x y : Int32} (hd : decode mi.2.1 pc = .ok (.isub, 1))  (k : J Z cs (pc + 1) ls (.int (x - y) :: st) w) : J Z cs pc ls (.int y :: .int x :: st) w :=
  fun H locs la hH hS hl => lv_isub C.1 C.2.1 hd (k H locs la hH hS hl)
theorem j_imul (C : CX Z G mi own) {x y : Int32} (hd : decode mi.2.1 pc = .ok (.imul, 1))  (k : J Z cs (pc + 1) ls (.int (x * y) :: st) w) : J Z cs pc ls (.int y :: .int x :: st) w :=
  fun H locs la hH hS hl => lv_imul C.1 C.2.1 hd (k H locs la hH hS hl)
theorem j_iand (C : CX Z G mi own) {x y : Int32} (hd : decode mi.2.1 pc = .ok (.iand, 1))  (k : J Z cs (pc + 1) ls (.int (x &&& y) :: st) w) : J Z cs pc ls (.int y :: .int x :: st) w :=
  fun H locs la hH hS hl => lv_iand C.1 C.2.1 hd (k H locs la hH hS hl)
theorem j_ior (C : CX Z G mi own) {x y : Int32} (hd : decode mi.2.1 pc = .ok (.ior, 1))  (k : J Z cs (pc + 1) ls (.int (x ||| y) :: st) w) : J Z cs pc ls (.int y :: .int x :: st) w :=
  fun H locs la hH hS hl => lv_ior C.1 C.2.1 hd (k H locs la hH hS hl)
theorem j_ishl (C : CX Z G mi own) {x y : Int32} (hd : decode mi.2.1 pc = .ok (.ishl, 1))  (k : J Z cs (pc + 1) ls (.int (x <<< (y &&& 31)) :: st) w) : J Z cs pc ls (.int y :: .int x :: st) w :=
  fun H locs la hH hS hl => lv_ishl C.1 C.2.1 hd (k H locs la hH hS hl)
theorem j_ishr (C : CX Z G mi own) {x y : Int32} (hd : decode mi.2.1 pc = .ok (.ishr, 1))  (k : J Z cs (pc + 1) ls (.int (x >>> (y &&& 31)) :: st) w) : J Z cs pc ls (.int y :: .int x :: st) w :=
  fun H locs la hH hS hl => lv_ishr C.1 C.2.1 hd (k H locs la hH hS hl)
theorem j_ladd (C : CX Z G mi own) {x y : Int64} (hd : decode mi.2.1 pc = .ok (.ladd, 1))  (k : J Z cs (pc + 1) ls (.long (x + y) :: st) w) : J Z cs pc ls (.long y :: .long x :: st) w :=
  fun H locs la hH hS hl => lv_ladd C.1 C.2.1 hd (k H locs la hH hS hl)
theorem j_lsub (C : CX Z G mi own) {x y : Int64} (hd : decode mi.2.1 pc = .ok (.lsub, 1))  (k : J Z cs (pc + 1) ls (.long (x - y) :: st) w) : J Z cs pc ls (.long y :: .long x :: st) w :=
  fun H locs la hH hS hl => lv_lsub C.1 C.2.1 hd (k H locs la hH hS hl)
theorem j_lmul (C : CX Z G mi own) {x y : Int64} (hd : decode mi.2.1 pc = .ok (.lmul, 1))  (k : J Z cs (pc + 1) ls (.long (x * y) :: st) w) : J Z cs pc ls (.long y :: .long x :: st) w :=
  fun H locs la hH hS hl => lv_lmul C.1 C.2.1 hd (k H locs la hH hS hl)
theorem j_land (C : CX Z G mi own) {x y : Int64} (hd : decode mi.2.1 pc = .ok (.land, 1))  (k : J Z cs (pc + 1) ls (.long (x &&& y) :: st) w) : J Z cs pc ls (.long y :: .long x :: st) w :=
  fun H locs la hH hS hl => lv_land C.1 C.2.1 hd (k H locs la hH hS hl)
theorem j_lor (C : CX Z G mi own) {x y : Int64} (hd : decode mi.2.1 pc = .ok (.lor, 1))  (k : J Z cs (pc + 1) ls (.long (x ||| y) :: st) w) : J Z cs pc ls (.long y :: .long x :: st) w :=
  fun H locs la hH hS hl => lv_lor C.1 C.2.1 hd (k H locs la hH hS hl)
theorem j_idiv (C : CX Z G mi own) {x y : Int32} (hd : decode mi.2.1 pc = .ok (.idiv, 1)) (hne : ¬ y = 0) (k : J Z cs (pc + 1) ls (.int (x / y) :: st) w) : J Z cs pc ls (.int y :: .int x :: st) w :=
  fun H locs la hH hS hl => lv_idiv C.1 C.2.1 hd hne (k H locs la hH hS hl)
theorem j_irem (C : CX Z G mi own) {x y : Int32} (hd : decode mi.2.1 pc = .ok (.irem, 1)) (hne : ¬ y = 0) (k : J Z cs (pc + 1) ls (.int (x - x / y * y) :: st) w) : J Z cs pc ls (.int y :: .int x :: st) w :=
  fun H locs la hH hS hl => lv_irem C.1 C.2.1 hd hne (k H locs la hH hS hl)
theorem j_ldiv (C : CX Z G mi own) {x y : Int64} (hd : decode mi.2.1 pc = .ok (.ldiv, 1)) (hne : ¬ y = 0) (k : J Z cs (pc + 1) ls (.long (x / y) :: st) w) : J Z cs pc ls (.long y :: .long x :: st) w :=
  fun H locs la hH hS hl => lv_ldiv C.1 C.2.1 hd hne (k H locs la hH hS hl)
theorem j_lrem (C : CX Z G mi own) {x y : Int64} (hd : decode mi.2.1 pc = .ok (.lrem, 1)) (hne : ¬ y = 0) (k : J Z cs (pc + 1) ls (.long (x - x / y * y) :: st) w) : J Z cs pc ls (.long y :: .long x :: st) w :=
  fun H locs la hH hS hl => lv_lrem C.1 C.2.1 hd hne (k H locs la hH hS hl)
theorem j_lcmp (C : CX Z G mi own) {x y : Int64} (hd : decode mi.2.1 pc = .ok (.lcmp, 1))  (k : J Z cs (pc + 1) ls (.int (lg_cmp x y) :: st) w) : J Z cs pc ls (.long y :: .long x :: st) w :=
  fun H locs la hH hS hl => W.lcmp C.1 C.2.1 hd (k H locs la hH hS hl)
theorem j_ineg (C : CX Z G mi own) {x : Int32} (hd : decode mi.2.1 pc = .ok (.ineg, 1))  (k : J Z cs (pc + 1) ls (.int (-x) :: st) w) : J Z cs pc ls (.int x :: st) w :=
  fun H locs la hH hS hl => lv_ineg C.1 C.2.1 hd (k H locs la hH hS hl)
theorem j_i2l (C : CX Z G mi own) {x : Int32} (hd : decode mi.2.1 pc = .ok (.i2l, 1))  (k : J Z cs (pc + 1) ls (.long x.toInt64 :: st) w) : J Z cs pc ls (.int x :: st) w :=
  fun H locs la hH hS hl => lv_i2l C.1 C.2.1 hd rfl (k H locs la hH hS hl)
theorem j_l2i (C : CX Z G mi own) {x : Int64} (hd : decode mi.2.1 pc = .ok (.l2i, 1))  (k : J Z cs (pc + 1) ls (.int x.toInt32 :: st) w) : J Z cs pc ls (.long x :: st) w :=
  fun H locs la hH hS hl => lv_l2i C.1 C.2.1 hd rfl (k H locs la hH hS hl)
theorem j_i2b (C : CX Z G mi own) {x : Int32} (hd : decode mi.2.1 pc = .ok (.i2b, 1))  (k : J Z cs (pc + 1) ls (.int x.toInt8.toInt32 :: st) w) : J Z cs pc ls (.int x :: st) w :=
  fun H locs la hH hS hl => lv_i2b C.1 C.2.1 hd rfl (k H locs la hH hS hl)
theorem j_i2c (C : CX Z G mi own) {x : Int32} (hd : decode mi.2.1 pc = .ok (.i2c, 1))  (k : J Z cs (pc + 1) ls (.int (x.toUInt32 % 65536).toInt32 :: st) w) : J Z cs pc ls (.int x :: st) w :=
  fun H locs la hH hS hl => lv_i2c C.1 C.2.1 hd rfl (k H locs la hH hS hl)
theorem j_dup (C : CX Z G mi own) {va : Value} (hd : decode mi.2.1 pc = .ok (.dup, 1)) (hc : va.category = 1) (k : J Z cs (pc + 1) ls (va :: va :: st) w) : J Z cs pc ls (va :: st) w :=
  fun H locs la hH hS hl => lv_dup C.1 C.2.1 hd hc (k H locs la hH hS hl)
theorem j_pop (C : CX Z G mi own) {va : Value} (hd : decode mi.2.1 pc = .ok (.pop, 1)) (hc : va.category = 1) (k : J Z cs (pc + 1) ls (st) w) : J Z cs pc ls (va :: st) w :=
  fun H locs la hH hS hl => lv_pop C.1 C.2.1 hd hc (k H locs la hH hS hl)
theorem j_if_eq (C : CX Z G mi own) {x : Int32} {off : Int} (tgt : Nat) (hd : decode mi.2.1 pc = .ok (.ifCond .eq off, 3)) (ht : (pc : Int) + off = (tgt : Int)) (kt : x = 0 → J Z cs tgt ls st w) (kf : ¬ x = 0 → J Z cs (pc + 3) ls st w) : J Z cs pc ls (.int x :: st) w :=
  fun H locs la hH hS hl => lv_if_eq C.1 C.2.1 hd ht (fun h => kt h H locs la hH hS hl) (fun h => kf h H locs la hH hS hl)
theorem j_icmp_eq (C : CX Z G mi own) {x y : Int32} {off : Int} (tgt : Nat) (hd : decode mi.2.1 pc = .ok (.if_icmp .eq off, 3)) (ht : (pc : Int) + off = (tgt : Int)) (kt : x = y → J Z cs tgt ls st w) (kf : ¬ x = y → J Z cs (pc + 3) ls st w) : J Z cs pc ls (.int y :: .int x :: st) w :=
  fun H locs la hH hS hl => lv_icmp_eq C.1 C.2.1 hd ht (fun h => kt h H locs la hH hS hl) (fun h => kf h H locs la hH hS hl)
theorem j_if_ne (C : CX Z G mi own) {x : Int32} {off : Int} (tgt : Nat) (hd : decode mi.2.1 pc = .ok (.ifCond .ne off, 3)) (ht : (pc : Int) + off = (tgt : Int)) (kt : ¬ x = 0 → J Z cs tgt ls st w) (kf : x = 0 → J Z cs (pc + 3) ls st w) : J Z cs pc ls (.int x :: st) w :=
  fun H locs la hH hS hl => lv_if_ne C.1 C.2.1 hd ht (fun h => kt h H locs la hH hS hl) (fun h => kf h H locs la hH hS hl)
theorem j_icmp_ne (C : CX Z G mi own) {x y : Int32} {off : Int} (tgt : Nat) (hd : decode mi.2.1 pc = .ok (.if_icmp .ne off, 3)) (ht : (pc : Int) + off = (tgt : Int)) (kt : ¬ x = y → J Z cs tgt ls st w) (kf : x = y → J Z cs (pc + 3) ls st w) : J Z cs pc ls (.int y :: .int x :: st) w :=
  fun H locs la hH hS hl => lv_icmp_ne C.1 C.2.1 hd ht (fun h => kt h H locs la hH hS hl) (fun h => kf h H locs la hH hS hl)
theorem j_if_lt (C : CX Z G mi own) {x : Int32} {off : Int} (tgt : Nat) (hd : decode mi.2.1 pc = .ok (.ifCond .lt off, 3)) (ht : (pc : Int) + off = (tgt : Int)) (kt : x < 0 → J Z cs tgt ls st w) (kf : ¬ x < 0 → J Z cs (pc + 3) ls st w) : J Z cs pc ls (.int x :: st) w :=
  fun H locs la hH hS hl => lv_if_lt C.1 C.2.1 hd ht (fun h => kt h H locs la hH hS hl) (fun h => kf h H locs la hH hS hl)
theorem j_icmp_lt (C : CX Z G mi own) {x y : Int32} {off : Int} (tgt : Nat) (hd : decode mi.2.1 pc = .ok (.if_icmp .lt off, 3)) (ht : (pc : Int) + off = (tgt : Int)) (kt : x < y → J Z cs tgt ls st w) (kf : ¬ x < y → J Z cs (pc + 3) ls st w) : J Z cs pc ls (.int y :: .int x :: st) w :=
  fun H locs la hH hS hl => lv_icmp_lt C.1 C.2.1 hd ht (fun h => kt h H locs la hH hS hl) (fun h => kf h H locs la hH hS hl)
theorem j_if_ge (C : CX Z G mi own) {x : Int32} {off : Int} (tgt : Nat) (hd : decode mi.2.1 pc = .ok (.ifCond .ge off, 3)) (ht : (pc : Int) + off = (tgt : Int)) (kt : 0 ≤ x → J Z cs tgt ls st w) (kf : ¬ 0 ≤ x → J Z cs (pc + 3) ls st w) : J Z cs pc ls (.int x :: st) w :=
  fun H locs la hH hS hl => lv_if_ge C.1 C.2.1 hd ht (fun h => kt h H locs la hH hS hl) (fun h => kf h H locs la hH hS hl)
theorem j_icmp_ge (C : CX Z G mi own) {x y : Int32} {off : Int} (tgt : Nat) (hd : decode mi.2.1 pc = .ok (.if_icmp .ge off, 3)) (ht : (pc : Int) + off = (tgt : Int)) (kt : y ≤ x → J Z cs tgt ls st w) (kf : ¬ y ≤ x → J Z cs (pc + 3) ls st w) : J Z cs pc ls (.int y :: .int x :: st) w :=
  fun H locs la hH hS hl => lv_icmp_ge C.1 C.2.1 hd ht (fun h => kt h H locs la hH hS hl) (fun h => kf h H locs la hH hS hl)
theorem j_if_gt (C : CX Z G mi own) {x : Int32} {off : Int} (tgt : Nat) (hd : decode mi.2.1 pc = .ok (.ifCond .gt off, 3)) (ht : (pc : Int) + off = (tgt : Int)) (kt : 0 < x → J Z cs tgt ls st w) (kf : ¬ 0 < x → J Z cs (pc + 3) ls st w) : J Z cs pc ls (.int x :: st) w :=
  fun H locs la hH hS hl => lv_if_gt C.1 C.2.1 hd ht (fun h => kt h H locs la hH hS hl) (fun h => kf h H locs la hH hS hl)
theorem j_icmp_gt (C : CX Z G mi own) {x y : Int32} {off : Int} (tgt : Nat) (hd : decode mi.2.1 pc = .ok (.if_icmp .gt off, 3)) (ht : (pc : Int) + off = (tgt : Int)) (kt : y < x → J Z cs tgt ls st w) (kf : ¬ y < x → J Z cs (pc + 3) ls st w) : J Z cs pc ls (.int y :: .int x :: st) w :=
  fun H locs la hH hS hl => lv_icmp_gt C.1 C.2.1 hd ht (fun h => kt h H locs la hH hS hl) (fun h => kf h H locs la hH hS hl)
theorem j_if_le (C : CX Z G mi own) {x : Int32} {off : Int} (tgt : Nat) (hd : decode mi.2.1 pc = .ok (.ifCond .le off, 3)) (ht : (pc : Int) + off = (tgt : Int)) (kt : x ≤ 0 → J Z cs tgt ls st w) (kf : ¬ x ≤ 0 → J Z cs (pc + 3) ls st w) : J Z cs pc ls (.int x :: st) w :=
  fun H locs la hH hS hl => lv_if_le C.1 C.2.1 hd ht (fun h => kt h H locs la hH hS hl) (fun h => kf h H locs la hH hS hl)
theorem j_icmp_le (C : CX Z G mi own) {x y : Int32} {off : Int} (tgt : Nat) (hd : decode mi.2.1 pc = .ok (.if_icmp .le off, 3)) (ht : (pc : Int) + off = (tgt : Int)) (kt : x ≤ y → J Z cs tgt ls st w) (kf : ¬ x ≤ y → J Z cs (pc + 3) ls st w) : J Z cs pc ls (.int y :: .int x :: st) w :=
  fun H locs la hH hS hl => lv_icmp_le C.1 C.2.1 hd ht (fun h => kt h H locs la hH hS hl) (fun h => kf h H locs la hH hS hl)
theorem j_goto (C : CX Z G mi own) {off : Int} (tgt : Nat) (hd : decode mi.2.1 pc = .ok (.goto off, 3)) (ht : (pc : Int) + off = (tgt : Int)) (k : J Z cs tgt ls st w) : J Z cs pc ls st w :=
  fun H locs la hH hS hl => lv_goto C.1 C.2.1 hd ht (k H locs la hH hS hl)
theorem j_acmp_ne (C : CX Z G mi own) {rx ry : Option Nat} {off : Int} (tgt : Nat) (hd : decode mi.2.1 pc = .ok (.if_acmp .ne off, 3)) (ht : (pc : Int) + off = (tgt : Int)) (kt : ¬ rx.map (ra G) = ry.map (ra G) → J Z cs tgt ls st w) (kf : rx.map (ra G) = ry.map (ra G) → J Z cs (pc + 3) ls st w) : J Z cs pc ls (rv G ry :: rv G rx :: st) w :=
  fun H locs la hH hS hl => lv_acmp_ne C.1 C.2.1 hd ht (fun h => kt h H locs la hH hS hl) (fun h => kf h H locs la hH hS hl)
theorem j_tableOut (C : CX Z G mi own) {dflt lo hi : Int} {offs : Array Int} {len : Nat} {x : Int32} (tgt : Nat) (hd : decode mi.2.1 pc = .ok (.tableswitch dflt lo hi offs, len)) (h : x.toInt < lo ∨ hi < x.toInt) (ht : (pc : Int) + dflt = (tgt : Int)) (k : J Z cs tgt ls st w) : J Z cs pc ls (.int x :: st) w :=
  fun H locs la hH hS hl => lv_tableOut C.1 C.2.1 hd h ht (k H locs la hH hS hl)
theorem j_tableIn (C : CX Z G mi own) {dflt lo hi : Int} {offs : Array Int} {len : Nat} {x : Int32} {off : Int} (tgt : Nat) (hd : decode mi.2.1 pc = .ok (.tableswitch dflt lo hi offs, len)) (h1 : ¬ x.toInt < lo) (h2 : ¬ hi < x.toInt) (ho : offs[(x.toInt - lo).toNat]? = some off) (ht : (pc : Int) + off = (tgt : Int)) (k : J Z cs tgt ls st w) : J Z cs pc ls (.int x :: st) w :=
  fun H locs la hH hS hl => lv_tableIn C.1 C.2.1 hd h1 h2 ho ht (k H locs la hH hS hl)
end RULES

/-! cells -/
/-- i is k, and k is within n -/
def ix (i : Int32) (k n : Nat) : Prop := i.toInt = (k : Int) ∧ k < n
theorem ix_in {i : Int32} {k n : Nat} (h : ix i k n) : vp_in i n := vp_in_iff.mpr ⟨by rw [h.1]; omega, by rw [h.1]; have := h.2; omega⟩
theorem ix_cl {i : Int32} {k n : Nat} (h : ix i k n) : i.toNatClampNeg = k := by
  show i.toInt.toNat = k
  rw [h.1]
  rfl
def up2 {α : Type} (f : Nat → Nat → α) (a k : Nat) (v : α) : Nat → Nat → α := fun b j => if b = a then (if j = k then v else f b j) else f b j
theorem up2_same {α : Type} (f : Nat → Nat → α) (a k : Nat) (v : α) : up2 f a k v a k = v := by simp [up2]
theorem up2_ne {α : Type} (f : Nat → Nat → α) {a k : Nat} (v : α) {b : Nat} (h : b ≠ a) : up2 f a k v b = f b := by funext j; simp [up2, h]
theorem up2_nj {α : Type} (f : Nat → Nat → α) {a k : Nat} (v : α) {b j : Nat} (h : j ≠ k) : up2 f a k v b j = f b j := by by_cases hb : b = a <;> simp [up2, h]
theorem up2_row (f : Nat → Nat → Int32) (a k : Nat) (v : Int32) : up2 f a k v a = upd (f a) k v := by funext j; simp [up2, upd]
theorem up2_rowL (f : Nat → Nat → Int64) (a k : Nat) (v : Int64) : up2 f a k v a = vp_updL (f a) k v := by funext j; simp [up2, vp_updL]
/-- what the tables say of a class -/
def CL (ci n : Nat) : Prop := ∃ (c : String) (T : u_T) (ty : Nat → FieldType), cls[ci]? = some (c, T, n) ∧ (∀ w ∈ u_ws c T n, w ∈ tbl2) ∧ (∀ k, k < n → parseFieldDescriptor (T k).2.2.1 = some (ty k)) ∧ (∀ a, a < n → ∀ b, b < n → a ≠ b → (T a).2.1 ≠ (T b).2.1)
/-- a field, as an entry of the class own's pool has it: class ci of n fields, place k, type ty, final fin -/
def FL (own : String) (idx ci n k : Nat) (ty : FieldType) (fin : Bool) : Prop := ∃ (c : String) (T : u_T) (t0 : Nat → FieldType), cls[ci]? = some (c, T, n) ∧ (∀ w ∈ u_ws c T n, w ∈ tbl2) ∧ (∀ k, k < n → parseFieldDescriptor (T k).2.2.1 = some (t0 k)) ∧ (∀ a, a < n → ∀ b, b < n → a ≠ b → (T a).2.1 ≠ (T b).2.1) ∧ k < n ∧ Cond.fieldLink own idx (T k).1 (T k).2.1 (T k).2.2.1 ∈ tbl2 ∧ parseFieldDescriptor (T k).2.2.1 = some ty ∧ (T k).2.2.2 = fin ∧ (T k).1 = c
theorem ent_obj {G : GT} {sh : Nat → Nat × Nat} {I : Nat → Nat → Int32} {L : Nat → Nat → Int64} {R : Nat → Nat → Option Nat} {a ci n : Nat} (h : sh a = (ci, n)) (hc : ci < 20) : ent G sh I L R a = .inr (ci, (List.range n).map (fv G I L R a ci)) := by
  unfold ent
  rw [h]
  exact if_pos hc
theorem ent_int {G : GT} {sh : Nat → Nat × Nat} {I : Nat → Nat → Int32} {L : Nat → Nat → Int64} {R : Nat → Nat → Option Nat} {a kd n : Nat} (h : sh a = (20 + kd, n)) (hc : kd < 3) : ent G sh I L R a = .inl (gA G kd, n, .inl (I a)) := by
  unfold ent
  rw [h]
  show (if 20 + kd < 20 then _ else if 20 + kd < 23 then _ else _) = _
  rw [if_neg (by omega), if_pos (by omega), show 20 + kd - 20 = kd by omega]
theorem ent_long {G : GT} {sh : Nat → Nat × Nat} {I : Nat → Nat → Int32} {L : Nat → Nat → Int64} {R : Nat → Nat → Option Nat} {a n : Nat} (h : sh a = (23, n)) : ent G sh I L R a = .inl (gA G 3, n, .inr (.inl (L a))) := by
  unfold ent
  rw [h]
  show (if 23 < 20 then _ else if 23 < 23 then _ else if 23 = 23 then _ else _) = _
  rw [if_neg (by omega), if_neg (by omega), if_pos rfl]
theorem ent_ref {G : GT} {sh : Nat → Nat × Nat} {I : Nat → Nat → Int32} {L : Nat → Nat → Int64} {R : Nat → Nat → Option Nat} {a kd n : Nat} (h : sh a = (24 + kd, n)) : ent G sh I L R a = .inl (gA G (4 + kd), n, .inr (.inr (.inr (.inr (fun j => (R a j).map (ra G)))))) := by
  unfold ent
  rw [h]
  show (if 24 + kd < 20 then _ else if 24 + kd < 23 then _ else if 24 + kd = 23 then _ else _) = _
  rw [if_neg (by omega), if_neg (by omega), if_neg (by omega), show 24 + kd - 20 = 4 + kd by omega]
/-- an int written somewhere leaves the other cells -/
theorem ent_upI {G : GT} {sh : Nat → Nat × Nat} {I : Nat → Nat → Int32} {L : Nat → Nat → Int64} {R : Nat → Nat → Option Nat} {a k : Nat} {v : Int32} {b : Nat} (h : b ≠ a) : ent G sh (up2 I a k v) L R b = ent G sh I L R b := by
  unfold ent
  rw [up2_ne I v h]
  have : ∀ c, fv G (up2 I a k v) L R b c = fv G I L R b c := fun c => by funext j; unfold fv; rw [up2_ne I v h]
  rw [this]
theorem ent_upL {G : GT} {sh : Nat → Nat × Nat} {I : Nat → Nat → Int32} {L : Nat → Nat → Int64} {R : Nat → Nat → Option Nat} {a k : Nat} {v : Int64} {b : Nat} (h : b ≠ a) : ent G sh I (up2 L a k v) R b = ent G sh I L R b := by
  unfold ent
  rw [up2_ne L v h]
  have : ∀ c, fv G I (up2 L a k v) R b c = fv G I L R b c := fun c => by funext j; unfold fv; rw [up2_ne L v h]
  rw [this]
theorem ent_upR {G : GT} {sh : Nat → Nat × Nat} {I : Nat → Nat → Int32} {L : Nat → Nat → Int64} {R : Nat → Nat → Option Nat} {a k : Nat} {v : Option Nat} {b : Nat} (h : b ≠ a) : ent G sh I L (up2 R a k v) b = ent G sh I L R b := by
  unfold ent
  rw [up2_ne R v h]
  have : ∀ c, fv G I L (up2 R a k v) b c = fv G I L R b c := fun c => by funext j; unfold fv; rw [up2_ne R v h]
  rw [this]
theorem rg_set {f g : Nat → Value} {n k : Nat} {v : Value} (hk : g k = v) (ho : ∀ j, j ≠ k → g j = f j) : ((List.range n).map f).set k v = (List.range n).map g := by
  apply List.ext_getElem?
  intro i
  rw [List.getElem?_set]
  by_cases hi : i < n
  · rw [List.getElem?_map, List.getElem?_map, List.getElem?_range hi]
    by_cases h : k = i
    · subst h
      rw [if_pos rfl, if_pos (by rw [List.length_map, List.length_range]; exact hi)]
      simp [hk]
    · rw [if_neg h]
      simp [ho i (fun z => h z.symm)]
  · have h1 : ((List.range n).map g)[i]? = none := List.getElem?_eq_none (by rw [List.length_map, List.length_range]; omega)
    have h2 : ((List.range n).map f)[i]? = none := List.getElem?_eq_none (by rw [List.length_map, List.length_range]; omega)
    rw [h1, h2]
    by_cases h : k = i
    · rw [if_pos h, if_neg (by rw [List.length_map, List.length_range]; omega)]
    · rw [if_neg h]
theorem rg_at {f : Nat → Value} {n k : Nat} (h : k < n) : ((List.range n).map f)[k]? = some (f k) := by
  rw [List.getElem?_map, List.getElem?_range h]
  rfl
section CELLS
variable {Z : ZT} {G : GT} {mi : MI} {own : String} {cs : Nat × Nat} {pc : Nat} {ls : LV} {st : List Value} {w : Wd} {N : Nat} {sh : Nat → Nat × Nat} {I : Nat → Nat → Int32} {L : Nat → Nat → Int64} {R : Nat → Nat → Option Nat}
theorem j_getv (C : CX Z G mi own) {idx ci n k a : Nat} {ty : FieldType} {fin : Bool} (f : FL own idx ci n k ty fin) (hc : Nat.blt ci 20 = true) (hs : a < N ∧ sh a = (ci, n)) (hd : decode mi.2.1 pc = .ok (.getfield idx, 3)) (kk : J Z cs (pc + 3) ls (fv G I L R a ci k :: st) (N, sh, I, L, R)) : J Z cs pc ls (.ref (ra G a) :: st) (N, sh, I, L, R) := by
  intro H locs la hH hS hl
  obtain ⟨c, T, t0, f1, f2, f3, f4, f5, f6, f7, f8, f9⟩ := f
  have hG : zG Z = G := C.2.2.1
  rw [hG] at hH hS
  have hA : (wsOf G (N, sh, I, L, R))[a]? = some (gb G + a, ent G sh I L R a) := wsOf_at (w := (N, sh, I, L, R)) hs.1
  rw [ent_obj hs.2 (Nat.le_of_ble_eq_true hc)] at hA
  rw [ra_lt G (Nat.lt_trans hs.1 hH.2.2)]
  exact va_get C.1 C.2.1 C.2.2.2.2.2.2.1 f2 C.2.2.2.2.2.1 C.2.2.2.2.2.2.2.2.1.1 hH.1 a hA f1 k f5 (C.2.2.2.2.2.2.1 _ f6) (fun _ h => h) (rg_at f5) hd (kk H locs la (by rw [hG]; exact hH) (by rw [hG]; exact hS) hl)
theorem j_geti (C : CX Z G mi own) {idx ci n k a : Nat} {ty : FieldType} {fin : Bool} (f : FL own idx ci n k ty fin) (hs : a < N ∧ sh a = (ci, n)) (hc : Nat.blt ci 20 = true) (hk : fk ci k = 0) (hd : decode mi.2.1 pc = .ok (.getfield idx, 3)) (kk : J Z cs (pc + 3) ls (.int (I a k) :: st) (N, sh, I, L, R)) : J Z cs pc ls (.ref (ra G a) :: st) (N, sh, I, L, R) :=
  j_getv C f hc hs hd (by unfold fv; rw [hk]; exact kk)
theorem j_getl (C : CX Z G mi own) {idx ci n k a : Nat} {ty : FieldType} {fin : Bool} (f : FL own idx ci n k ty fin) (hs : a < N ∧ sh a = (ci, n)) (hc : Nat.blt ci 20 = true) (hk : fk ci k = 1) (hd : decode mi.2.1 pc = .ok (.getfield idx, 3)) (kk : J Z cs (pc + 3) ls (.long (L a k) :: st) (N, sh, I, L, R)) : J Z cs pc ls (.ref (ra G a) :: st) (N, sh, I, L, R) :=
  j_getv C f hc hs hd (by unfold fv; rw [hk]; exact kk)
theorem j_getr (C : CX Z G mi own) {idx ci n k a : Nat} {ty : FieldType} {fin : Bool} (f : FL own idx ci n k ty fin) (hs : a < N ∧ sh a = (ci, n)) (hc : Nat.blt ci 20 = true) (hk : fk ci k = 2) {r : Nat} (hr : R a k = some r) (hd : decode mi.2.1 pc = .ok (.getfield idx, 3)) (kk : J Z cs (pc + 3) ls (.ref (ra G r) :: st) (N, sh, I, L, R)) : J Z cs pc ls (.ref (ra G a) :: st) (N, sh, I, L, R) :=
  j_getv C f hc hs hd (by unfold fv; rw [hk]; show J Z cs (pc + 3) ls (rv G (R a k) :: st) _; rw [hr]; exact kk)
/-- any field written: the new world is given by its cells -/
theorem j_putv (C : CX Z G mi own) {idx ci n k a : Nat} {ty : FieldType} (f : FL own idx ci n k ty false) (hs : a < N ∧ sh a = (ci, n)) (hc : Nat.blt ci 20 = true) {v : Value} (hn : narrow ty v = v) (hfit : fits ty v = true) (hd : decode mi.2.1 pc = .ok (.putfield idx, 3)) {I' : Nat → Nat → Int32} {L' : Nat → Nat → Int64} {R' : Nat → Nat → Option Nat} (hv : fv G I' L' R' a ci k = v) (ho : ∀ j, j ≠ k → fv G I' L' R' a ci j = fv G I L R a ci j) (hb : ∀ b, b ≠ a → ent G sh I' L' R' b = ent G sh I L R b)
    (kk : J Z cs (pc + 3) ls st (N, sh, I', L', R')) : J Z cs pc ls (v :: .ref (ra G a) :: st) (N, sh, I, L, R) := by
  intro H locs la hH hS hl
  obtain ⟨c, T, t0, f1, f2, f3, f4, f5, f6, f7, f8, f9⟩ := f
  have hG : zG Z = G := C.2.2.1
  rw [hG] at hH hS
  have he : (wsOf G (N, sh, I, L, R))[a]? = some (gb G + a, ent G sh I L R a) := wsOf_at (w := (N, sh, I, L, R)) hs.1
  rw [ent_obj hs.2 (Nat.le_of_ble_eq_true hc)] at he
  rw [ra_lt G (Nat.lt_trans hs.1 hH.2.2)]
  have hts := C.2.2.2.2.2.2.1
  have hK := C.2.2.2.2.2.2.2.2.1.1
  have hown := C.2.2.2.2.2.1
  have hP := hH.1
  have hD := wsOf_D G (N, sh, I, L, R)
  have hap := va_apart (own := own) hts f2 t0 f3 f4 hK f1
  obtain ⟨r, h1, cell, q1, q2, q3, q4⟩ := hP a _ he
  have hr : r = (c, T, n) := Option.some.inj (h1.symm.trans f1)
  subst hr
  obtain ⟨hSl, hfc, kC, hkC, hkind⟩ := hK.1 ci _ f1
  obtain ⟨cf, kf, fi, fd, hi, hsl⟩ := hSl k f5
  have hlay := hts _ (f2 _ (u_in_lay f5))
  unfold u_lay at hlay
  rw [if_neg (by rw [f8]; decide)] at hlay
  have hst := (u_facts hfc hkC (u_lays hts f2 f5) hi).1
  have h6 := u_store hfc hkC hkind hlay hi f7 hn hfit
  refine W.putK C.1 C.2.1 (f := fd) ⟨hown, hts _ f6, ⟨_, _, _, hi⟩, hst⟩ (by rw [q2]; exact h6) q1 q3 (by rw [hsl]; exact k2_hasslot (q4 k f5)) rfl rfl hd fun H' e1 e2 e3 => ?_
  rw [hsl] at e1 ⊢
  have hl0 : k < ((List.range n).map (fv G I L R a ci)).length := by rw [List.length_map, List.length_range]; exact f5
  have hP1 : va_P (gD G) cls ((wsOf G (N, sh, I, L, R)).set a (gb G + a, .inr (ci, ((List.range n).map (fv G I L R a ci)).set k v))) H' := hP.set hD he ⟨_, f1, t_OB.to (V := updV (vp_V ((List.range n).map (fv G I L R a ci))) k v) ⟨_, e1, q2, q3, t_set q4 hap f5 v⟩ (fun j _ => vp_updV_set hl0 v j)⟩ e3
  rw [rg_set (f := fv G I L R a ci) (g := fv G I' L' R' a ci) hv ho] at hP1
  exact kk H' _ la (by rw [hG]; exact HW_set (w' := (N, sh, I', L', R')) hH rfl hs.1 (ent_obj hs.2 (Nat.le_of_ble_eq_true hc)) hb hP1 e2) (by rw [hG]; exact hS.put e2 e3 (hD.2 a _ he)) hl
theorem fv_upI {G : GT} {I : Nat → Nat → Int32} {L : Nat → Nat → Int64} {R : Nat → Nat → Option Nat} {a ci k : Nat} {x : Int32} (j : Nat) (h : j ≠ k) : fv G (up2 I a k x) L R a ci j = fv G I L R a ci j := by unfold fv; rw [up2_nj I x h]
theorem fv_upL {G : GT} {I : Nat → Nat → Int32} {L : Nat → Nat → Int64} {R : Nat → Nat → Option Nat} {a ci k : Nat} {x : Int64} (j : Nat) (h : j ≠ k) : fv G I (up2 L a k x) R a ci j = fv G I L R a ci j := by unfold fv; rw [up2_nj L x h]
theorem fv_upR {G : GT} {I : Nat → Nat → Int32} {L : Nat → Nat → Int64} {R : Nat → Nat → Option Nat} {a ci k : Nat} {x : Option Nat} (j : Nat) (h : j ≠ k) : fv G I L (up2 R a k x) a ci j = fv G I L R a ci j := by unfold fv; rw [up2_nj R x h]
theorem j_puti (C : CX Z G mi own) {idx ci n k a : Nat} (f : FL own idx ci n k .int false) (hs : a < N ∧ sh a = (ci, n)) (hc : Nat.blt ci 20 = true) (hk : fk ci k = 0) (hd : decode mi.2.1 pc = .ok (.putfield idx, 3)) {x : Int32} (kk : J Z cs (pc + 3) ls st (N, sh, up2 I a k x, L, R)) : J Z cs pc ls (.int x :: .ref (ra G a) :: st) (N, sh, I, L, R) :=
  j_putv C f hs hc rfl rfl hd (by unfold fv; rw [hk]; show Value.int (up2 I a k x a k) = _; rw [up2_same]) fv_upI (fun b hb => ent_upI hb) kk
/-- 0 or 1 -/
def isB (x : Int32) : Prop := x = 0 ∨ x = 1
theorem isB_n {x : Int32} (h : isB x) : narrow .boolean (.int x) = .int x := by rcases h with rfl | rfl <;> rfl
theorem isB_f {x : Int32} (h : isB x) : fits .boolean (.int x) = true := by rcases h with rfl | rfl <;> rfl
theorem j_putz (C : CX Z G mi own) {idx ci n k a : Nat} (f : FL own idx ci n k .boolean false) (hs : a < N ∧ sh a = (ci, n)) (hc : Nat.blt ci 20 = true) (hk : fk ci k = 0) (hd : decode mi.2.1 pc = .ok (.putfield idx, 3)) {x : Int32} (hx : isB x) (kk : J Z cs (pc + 3) ls st (N, sh, up2 I a k x, L, R)) : J Z cs pc ls (.int x :: .ref (ra G a) :: st) (N, sh, I, L, R) :=
  j_putv C f hs hc (isB_n hx) (isB_f hx) hd (by unfold fv; rw [hk]; show Value.int (up2 I a k x a k) = _; rw [up2_same]) fv_upI (fun b hb => ent_upI hb) kk
theorem j_putl (C : CX Z G mi own) {idx ci n k a : Nat} (f : FL own idx ci n k .long false) (hs : a < N ∧ sh a = (ci, n)) (hc : Nat.blt ci 20 = true) (hk : fk ci k = 1) (hd : decode mi.2.1 pc = .ok (.putfield idx, 3)) {x : Int64} (kk : J Z cs (pc + 3) ls st (N, sh, I, up2 L a k x, R)) : J Z cs pc ls (.long x :: .ref (ra G a) :: st) (N, sh, I, L, R) :=
  j_putv C f hs hc rfl rfl hd (by unfold fv; rw [hk]; show Value.long (up2 L a k x a k) = _; rw [up2_same]) fv_upL (fun b hb => ent_upL hb) kk
theorem j_putr (C : CX Z G mi own) {idx ci n k a : Nat} {cn : String} (f : FL own idx ci n k (.object cn) false) (hs : a < N ∧ sh a = (ci, n)) (hc : Nat.blt ci 20 = true) (hk : fk ci k = 2) (hd : decode mi.2.1 pc = .ok (.putfield idx, 3)) {r : Nat} (kk : J Z cs (pc + 3) ls st (N, sh, I, L, up2 R a k (some r))) : J Z cs pc ls (.ref (ra G r) :: .ref (ra G a) :: st) (N, sh, I, L, R) :=
  j_putv C f hs hc rfl rfl hd (by unfold fv; rw [hk]; show rv G (up2 R a k (some r) a k) = _; rw [up2_same]; rfl) fv_upR (fun b hb => ent_upR hb) kk
end CELLS

