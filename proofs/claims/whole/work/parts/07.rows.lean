section ZR
variable {l : Launch} {E : zEnv} {J : zM} {R : Room} {K : zK} {cells slots : Nat} {ws : List va_E} {pc : Nat} {L : List (Nat × Value)} {st : List Value}
theorem z_iconst {n : Int} (hd : decode J.2.1 pc = .ok (.iconst n, 1)) (k : Z l E J R K cells slots ws (pc + 1) (L) (.int (iI n) :: st)) : Z l E J R K cells slots ws (pc) (L) (st) := by
  intro p e s m args below meth c C H locs ls hH hS hl
  exact lv_iconst C.1 C.2.1 hd rfl (k p e s m args below meth c C H locs ls hH hS hl)
theorem z_bipush {n : Int} (hd : decode J.2.1 pc = .ok (.bipush n, 2)) (hv : (Int8.ofInt n).toInt32 = iI n) (k : Z l E J R K cells slots ws (pc + 2) (L) (.int (iI n) :: st)) : Z l E J R K cells slots ws (pc) (L) (st) := by
  intro p e s m args below meth c C H locs ls hH hS hl
  exact lv_bipush C.1 C.2.1 hd hv (k p e s m args below meth c C H locs ls hH hS hl)
theorem z_sipush {n : Int} (hd : decode J.2.1 pc = .ok (.sipush n, 3)) (hv : (Int16.ofInt n).toInt32 = iI n) (k : Z l E J R K cells slots ws (pc + 3) (L) (.int (iI n) :: st)) : Z l E J R K cells slots ws (pc) (L) (st) := by
  intro p e s m args below meth c C H locs ls hH hS hl
  exact lv_sipush C.1 C.2.1 hd hv (k p e s m args below meth c C H locs ls hH hS hl)
theorem z_lconst {n : Fin 2} (z : Int) (hd : decode J.2.1 pc = .ok (.lconst n, 1)) (hv : Int64.ofNat (n : Nat) = iL z) (k : Z l E J R K cells slots ws (pc + 1) (L) (.long (iL z) :: st)) : Z l E J R K cells slots ws (pc) (L) (st) := by
  intro p e s m args below meth c C H locs ls hH hS hl
  exact lv_lconst C.1 C.2.1 hd hv (k p e s m args below meth c C H locs ls hH hS hl)
theorem z_ldc {i : Nat} (z : Int) (hd : decode J.2.1 pc = .ok (.ldc i, 2)) (hw : Cond.constant J.1.cls i (iI z) ∈ zwt) (k : Z l E J R K cells slots ws (pc + 2) (L) (.int (iI z) :: st)) : Z l E J R K cells slots ws (pc) (L) (st) := by
  intro p e s m args below meth c C H locs ls hH hS hl
  exact lv_ldc C.1 C.2.1 C.2.2.2.1 (C.2.2.2.2.1 _ hw) hd (k p e s m args below meth c C H locs ls hH hS hl)
theorem z_ldc2 {i : Nat} (z : Int) (hd : decode J.2.1 pc = .ok (.ldc2_w i, 3)) (hw : Cond.constantLong J.1.cls i (iL z) ∈ zwt) (k : Z l E J R K cells slots ws (pc + 3) (L) (.long (iL z) :: st)) : Z l E J R K cells slots ws (pc) (L) (st) := by
  intro p e s m args below meth c C H locs ls hH hS hl
  exact lv_ldc2 C.1 C.2.1 C.2.2.2.1 (C.2.2.2.2.1 _ hw) hd (k p e s m args below meth c C H locs ls hH hS hl)
theorem z_null (hd : decode J.2.1 pc = .ok (.aconst_null, 1)) (k : Z l E J R K cells slots ws (pc + 1) (L) (.null :: st)) : Z l E J R K cells slots ws (pc) (L) (st) := by
  intro p e s m args below meth c C H locs ls hH hS hl
  exact lv_null C.1 C.2.1 hd (k p e s m args below meth c C H locs ls hH hS hl)
theorem z_iload_n {n : Fin 4} {x : Int32} (hd : decode J.2.1 pc = .ok (.iload_n n, 1)) (hv : zlk n L = some (.int x)) (k : Z l E J R K cells slots ws (pc + 1) (L) (.int x :: st)) : Z l E J R K cells slots ws (pc) (L) (st) := by
  intro p e s m args below meth c C H locs ls hH hS hl
  exact lv_iload_n C.1 C.2.1 hd rfl (hl.2.2 _ (zlk_mem hv)) (k p e s m args below meth c C H locs ls hH hS hl)
theorem z_iload {n : Nat} {x : Int32} (hd : decode J.2.1 pc = .ok (.iload n, 2)) (hv : zlk n L = some (.int x)) (k : Z l E J R K cells slots ws (pc + 2) (L) (.int x :: st)) : Z l E J R K cells slots ws (pc) (L) (st) := by
  intro p e s m args below meth c C H locs ls hH hS hl
  exact lv_iload C.1 C.2.1 hd (hl.2.2 _ (zlk_mem hv)) (k p e s m args below meth c C H locs ls hH hS hl)
theorem z_lload_n {n : Fin 4} {x : Int64} (hd : decode J.2.1 pc = .ok (.lload_n n, 1)) (hv : zlk n L = some (.long x)) (k : Z l E J R K cells slots ws (pc + 1) (L) (.long x :: st)) : Z l E J R K cells slots ws (pc) (L) (st) := by
  intro p e s m args below meth c C H locs ls hH hS hl
  exact lv_lload_n C.1 C.2.1 hd rfl (hl.2.2 _ (zlk_mem hv)) (k p e s m args below meth c C H locs ls hH hS hl)
theorem z_lload {n : Nat} {x : Int64} (hd : decode J.2.1 pc = .ok (.lload n, 2)) (hv : zlk n L = some (.long x)) (k : Z l E J R K cells slots ws (pc + 2) (L) (.long x :: st)) : Z l E J R K cells slots ws (pc) (L) (st) := by
  intro p e s m args below meth c C H locs ls hH hS hl
  exact lv_lload C.1 C.2.1 hd (hl.2.2 _ (zlk_mem hv)) (k p e s m args below meth c C H locs ls hH hS hl)
theorem z_aload_n {n : Fin 4} {x : Nat} (hd : decode J.2.1 pc = .ok (.aload_n n, 1)) (hv : zlk n L = some (.ref x)) (k : Z l E J R K cells slots ws (pc + 1) (L) (.ref x :: st)) : Z l E J R K cells slots ws (pc) (L) (st) := by
  intro p e s m args below meth c C H locs ls hH hS hl
  exact lv_aload_n C.1 C.2.1 hd rfl (hl.2.2 _ (zlk_mem hv)) (k p e s m args below meth c C H locs ls hH hS hl)
theorem z_aload {n : Nat} {x : Nat} (hd : decode J.2.1 pc = .ok (.aload n, 2)) (hv : zlk n L = some (.ref x)) (k : Z l E J R K cells slots ws (pc + 2) (L) (.ref x :: st)) : Z l E J R K cells slots ws (pc) (L) (st) := by
  intro p e s m args below meth c C H locs ls hH hS hl
  exact lv_aload C.1 C.2.1 hd (hl.2.2 _ (zlk_mem hv)) (k p e s m args below meth c C H locs ls hH hS hl)
theorem z_aload_nN {n : Fin 4} (hd : decode J.2.1 pc = .ok (.aload_n n, 1)) (hv : zlk n L = some .null) (k : Z l E J R K cells slots ws (pc + 1) (L) (.null :: st)) : Z l E J R K cells slots ws (pc) (L) (st) := by
  intro p e s m args below meth c C H locs ls hH hS hl
  exact lv_aload_nN C.1 C.2.1 hd rfl (hl.2.2 _ (zlk_mem hv)) (k p e s m args below meth c C H locs ls hH hS hl)
theorem z_aloadN {n : Nat} (hd : decode J.2.1 pc = .ok (.aload n, 2)) (hv : zlk n L = some .null) (k : Z l E J R K cells slots ws (pc + 2) (L) (.null :: st)) : Z l E J R K cells slots ws (pc) (L) (st) := by
  intro p e s m args below meth c C H locs ls hH hS hl
  exact lv_aloadN C.1 C.2.1 hd (hl.2.2 _ (zlk_mem hv)) (k p e s m args below meth c C H locs ls hH hS hl)
theorem z_istore_n {n : Fin 4} {x : Int32} (hd : decode J.2.1 pc = .ok (.istore_n n, 1)) (hn : (n : Nat) < J.2.2.1) (k : Z l E J R K cells slots ws (pc + 1) (zst1 n (.int x) L) (st)) : Z l E J R K cells slots ws (pc) (L) (.int x :: st) := by
  intro p e s m args below meth c C H locs ls hH hS hl
  exact lv_istore_n C.1 C.2.1 hd rfl hl hn rfl (fun ls hl => k p e s m args below meth c C H locs ls hH hS hl)
theorem z_istore {n : Nat} {x : Int32} (hd : decode J.2.1 pc = .ok (.istore n, 2)) (hn : n < J.2.2.1) (k : Z l E J R K cells slots ws (pc + 2) (zst1 n (.int x) L) (st)) : Z l E J R K cells slots ws (pc) (L) (.int x :: st) := by
  intro p e s m args below meth c C H locs ls hH hS hl
  exact lv_istore C.1 C.2.1 hd hl hn rfl (fun ls hl => k p e s m args below meth c C H locs ls hH hS hl)
theorem z_lstore_n {n : Fin 4} {x : Int64} (hd : decode J.2.1 pc = .ok (.lstore_n n, 1)) (hn : (n : Nat) + 1 < J.2.2.1) (k : Z l E J R K cells slots ws (pc + 1) (zst2 n (.long x) L) (st)) : Z l E J R K cells slots ws (pc) (L) (.long x :: st) := by
  intro p e s m args below meth c C H locs ls hH hS hl
  exact lv_lstore_n C.1 C.2.1 hd rfl hl hn rfl (fun ls hl => k p e s m args below meth c C H locs ls hH hS hl)
theorem z_lstore {n : Nat} {x : Int64} (hd : decode J.2.1 pc = .ok (.lstore n, 2)) (hn : n + 1 < J.2.2.1) (k : Z l E J R K cells slots ws (pc + 2) (zst2 n (.long x) L) (st)) : Z l E J R K cells slots ws (pc) (L) (.long x :: st) := by
  intro p e s m args below meth c C H locs ls hH hS hl
  exact lv_lstore C.1 C.2.1 hd hl hn rfl (fun ls hl => k p e s m args below meth c C H locs ls hH hS hl)
theorem z_astore_n {n : Fin 4} {x : Nat} (hd : decode J.2.1 pc = .ok (.astore_n n, 1)) (hn : (n : Nat) < J.2.2.1) (k : Z l E J R K cells slots ws (pc + 1) (zst1 n (.ref x) L) (st)) : Z l E J R K cells slots ws (pc) (L) (.ref x :: st) := by
  intro p e s m args below meth c C H locs ls hH hS hl
  exact lv_astore_n C.1 C.2.1 hd rfl hl hn rfl (fun ls hl => k p e s m args below meth c C H locs ls hH hS hl)
theorem z_astore {n : Nat} {x : Nat} (hd : decode J.2.1 pc = .ok (.astore n, 2)) (hn : n < J.2.2.1) (k : Z l E J R K cells slots ws (pc + 2) (zst1 n (.ref x) L) (st)) : Z l E J R K cells slots ws (pc) (L) (.ref x :: st) := by
  intro p e s m args below meth c C H locs ls hH hS hl
  exact lv_astore C.1 C.2.1 hd hl hn rfl (fun ls hl => k p e s m args below meth c C H locs ls hH hS hl)
theorem z_astore_nN {n : Fin 4} (hd : decode J.2.1 pc = .ok (.astore_n n, 1)) (hn : (n : Nat) < J.2.2.1) (k : Z l E J R K cells slots ws (pc + 1) (zst1 n .null L) (st)) : Z l E J R K cells slots ws (pc) (L) (.null :: st) := by
  intro p e s m args below meth c C H locs ls hH hS hl
  exact lv_astore_nN C.1 C.2.1 hd rfl hl hn rfl (fun ls hl => k p e s m args below meth c C H locs ls hH hS hl)
theorem z_astoreN {n : Nat} (hd : decode J.2.1 pc = .ok (.astore n, 2)) (hn : n < J.2.2.1) (k : Z l E J R K cells slots ws (pc + 2) (zst1 n .null L) (st)) : Z l E J R K cells slots ws (pc) (L) (.null :: st) := by
  intro p e s m args below meth c C H locs ls hH hS hl
  exact lv_astoreN C.1 C.2.1 hd hl hn rfl (fun ls hl => k p e s m args below meth c C H locs ls hH hS hl)
theorem z_iinc {n : Nat} {d x : Int} (hd : decode J.2.1 pc = .ok (.iinc n d, 3)) (hv : zlk n L = some (.int (iI x))) (hn : n < J.2.2.1) (k : Z l E J R K cells slots ws (pc + 3) (zst1 n (.int (iI (x + d))) L) (st)) : Z l E J R K cells slots ws (pc) (L) (st) := by
  intro p e s m args below meth c C H locs ls hH hS hl
  obtain ⟨q, hq⟩ := List.getElem?_of_mem (zlk_mem hv)
  exact lv_iinc C.1 C.2.1 hd hl hq (iI_add x d) hn rfl (fun ls hl => k p e s m args below meth c C H locs ls hH hS hl)
theorem z_keys (ks : List Nat) (k : Z l E J R K cells slots ws (pc) (zpick ks L) (st)) : Z l E J R K cells slots ws (pc) (L) (st) := by
  intro p e s m args below meth c C H locs ls hH hS hl
  exact k p e s m args below meth c C H locs ls hH hS (zpick_has hl ks)
theorem z_iadd {a b : Int} (hd : decode J.2.1 pc = .ok (.iadd, 1)) (k : Z l E J R K cells slots ws (pc + 1) (L) (.int (iI (a + b)) :: st)) : Z l E J R K cells slots ws (pc) (L) (.int (iI b) :: .int (iI a) :: st) := by
  intro p e s m args below meth c C H locs ls hH hS hl
  refine lv_iadd C.1 C.2.1 hd ?_
  rw [iI_add]
  exact k p e s m args below meth c C H locs ls hH hS hl
theorem z_ladd {a b : Int} (hd : decode J.2.1 pc = .ok (.ladd, 1)) (k : Z l E J R K cells slots ws (pc + 1) (L) (.long (iL (a + b)) :: st)) : Z l E J R K cells slots ws (pc) (L) (.long (iL b) :: .long (iL a) :: st) := by
  intro p e s m args below meth c C H locs ls hH hS hl
  refine lv_ladd C.1 C.2.1 hd ?_
  rw [iL_add]
  exact k p e s m args below meth c C H locs ls hH hS hl
theorem z_isub {a b : Int} (hd : decode J.2.1 pc = .ok (.isub, 1)) (k : Z l E J R K cells slots ws (pc + 1) (L) (.int (iI (a - b)) :: st)) : Z l E J R K cells slots ws (pc) (L) (.int (iI b) :: .int (iI a) :: st) := by
  intro p e s m args below meth c C H locs ls hH hS hl
  refine lv_isub C.1 C.2.1 hd ?_
  rw [iI_sub]
  exact k p e s m args below meth c C H locs ls hH hS hl
theorem z_lsub {a b : Int} (hd : decode J.2.1 pc = .ok (.lsub, 1)) (k : Z l E J R K cells slots ws (pc + 1) (L) (.long (iL (a - b)) :: st)) : Z l E J R K cells slots ws (pc) (L) (.long (iL b) :: .long (iL a) :: st) := by
  intro p e s m args below meth c C H locs ls hH hS hl
  refine lv_lsub C.1 C.2.1 hd ?_
  rw [iL_sub]
  exact k p e s m args below meth c C H locs ls hH hS hl
theorem z_imul {a b : Int} (hd : decode J.2.1 pc = .ok (.imul, 1)) (k : Z l E J R K cells slots ws (pc + 1) (L) (.int (iI (a * b)) :: st)) : Z l E J R K cells slots ws (pc) (L) (.int (iI b) :: .int (iI a) :: st) := by
  intro p e s m args below meth c C H locs ls hH hS hl
  refine lv_imul C.1 C.2.1 hd ?_
  rw [iI_mul]
  exact k p e s m args below meth c C H locs ls hH hS hl
theorem z_lmul {a b : Int} (hd : decode J.2.1 pc = .ok (.lmul, 1)) (k : Z l E J R K cells slots ws (pc + 1) (L) (.long (iL (a * b)) :: st)) : Z l E J R K cells slots ws (pc) (L) (.long (iL b) :: .long (iL a) :: st) := by
  intro p e s m args below meth c C H locs ls hH hS hl
  refine lv_lmul C.1 C.2.1 hd ?_
  rw [iL_mul]
  exact k p e s m args below meth c C H locs ls hH hS hl
theorem z_lneg {a : Int} (hd : decode J.2.1 pc = .ok (.lneg, 1)) (k : Z l E J R K cells slots ws (pc + 1) (L) (.long (iL (-a)) :: st)) : Z l E J R K cells slots ws (pc) (L) (.long (iL a) :: st) := by
  intro p e s m args below meth c C H locs ls hH hS hl
  refine lv_lneg C.1 C.2.1 hd ?_
  rw [iL_neg]
  exact k p e s m args below meth c C H locs ls hH hS hl
theorem z_idiv {a b : Int} (hd : decode J.2.1 pc = .ok (.idiv, 1)) (ha : -2147483648 ≤ a ∧ a ≤ 2147483647) (hb : 0 < b ∧ b ≤ 2147483647) (k : Z l E J R K cells slots ws (pc + 1) (L) (.int (iI (a.tdiv b)) :: st)) : Z l E J R K cells slots ws (pc) (L) (.int (iI b) :: .int (iI a) :: st) := by
  intro p e s m args below meth c C H locs ls hH hS hl
  refine lv_idiv C.1 C.2.1 hd (fun h => ?_) ?_
  · have h2 := congrArg Int32.toInt h
    rw [iI_toInt (by omega)] at h2
    have h3 : b = 0 := h2
    omega
  · rw [iI_div ha hb]
    exact k p e s m args below meth c C H locs ls hH hS hl
theorem z_i2l {a : Int} (hd : decode J.2.1 pc = .ok (.i2l, 1)) (ha : -2147483648 ≤ a ∧ a ≤ 2147483647) (k : Z l E J R K cells slots ws (pc + 1) (L) (.long (iL a) :: st)) : Z l E J R K cells slots ws (pc) (L) (.int (iI a) :: st) := by
  intro p e s m args below meth c C H locs ls hH hS hl
  exact lv_i2l C.1 C.2.1 hd (iI_long ha) (k p e s m args below meth c C H locs ls hH hS hl)
theorem z_ldiv {x y : Int64} (hd : decode J.2.1 pc = .ok (.ldiv, 1)) (hy : ¬ y = 0) (k : Z l E J R K cells slots ws (pc + 1) (L) (.long (x / y) :: st)) : Z l E J R K cells slots ws (pc) (L) (.long y :: .long x :: st) := by
  intro p e s m args below meth c C H locs ls hH hS hl
  exact lv_ldiv C.1 C.2.1 hd hy (k p e s m args below meth c C H locs ls hH hS hl)
theorem z_lrem {x y : Int64} (hd : decode J.2.1 pc = .ok (.lrem, 1)) (hy : ¬ y = 0) (k : Z l E J R K cells slots ws (pc + 1) (L) (.long (x - x / y * y) :: st)) : Z l E J R K cells slots ws (pc) (L) (.long y :: .long x :: st) := by
  intro p e s m args below meth c C H locs ls hH hS hl
  exact lv_lrem C.1 C.2.1 hd hy (k p e s m args below meth c C H locs ls hH hS hl)
theorem z_lcmp {x y : Int64} (hd : decode J.2.1 pc = .ok (.lcmp, 1)) (k : Z l E J R K cells slots ws (pc + 1) (L) (.int (lg_cmp x y) :: st)) : Z l E J R K cells slots ws (pc) (L) (.long y :: .long x :: st) := by
  intro p e s m args below meth c C H locs ls hH hS hl
  exact W.lcmp C.1 C.2.1 hd (k p e s m args below meth c C H locs ls hH hS hl)
theorem z_iand {x y : Int32} (hd : decode J.2.1 pc = .ok (.iand, 1)) (k : Z l E J R K cells slots ws (pc + 1) (L) (.int (x &&& y) :: st)) : Z l E J R K cells slots ws (pc) (L) (.int y :: .int x :: st) := by
  intro p e s m args below meth c C H locs ls hH hS hl
  exact lv_iand C.1 C.2.1 hd (k p e s m args below meth c C H locs ls hH hS hl)
theorem z_dup {v : Value} (hd : decode J.2.1 pc = .ok (.dup, 1)) (hv : v.category = 1) (k : Z l E J R K cells slots ws (pc + 1) (L) (v :: v :: st)) : Z l E J R K cells slots ws (pc) (L) (v :: st) := by
  intro p e s m args below meth c C H locs ls hH hS hl
  exact lv_dup C.1 C.2.1 hd hv (k p e s m args below meth c C H locs ls hH hS hl)
theorem z_dup2 {v w : Value} (hd : decode J.2.1 pc = .ok (.dup2, 1)) (hv : v.category = 1) (hw : w.category = 1) (k : Z l E J R K cells slots ws (pc + 1) (L) (v :: w :: v :: w :: st)) : Z l E J R K cells slots ws (pc) (L) (v :: w :: st) := by
  intro p e s m args below meth c C H locs ls hH hS hl
  exact lv_dup2_11 C.1 C.2.1 hd hv hw (k p e s m args below meth c C H locs ls hH hS hl)
theorem z_topi {x : Int32} (y : Int32) (h : x = y) (k : Z l E J R K cells slots ws (pc) (L) (.int y :: st)) : Z l E J R K cells slots ws (pc) (L) (.int x :: st) := by
  intro p e s m args below meth c C H locs ls hH hS hl
  subst h
  exact k p e s m args below meth c C H locs ls hH hS hl
theorem z_top {x : Int} (y : Int) (h : x = y) (k : Z l E J R K cells slots ws (pc) (L) (.int (iI y) :: st)) : Z l E J R K cells slots ws (pc) (L) (.int (iI x) :: st) := by
  intro p e s m args below meth c C H locs ls hH hS hl
  subst h
  exact k p e s m args below meth c C H locs ls hH hS hl
theorem z_topl {x : Int64} (y : Int64) (h : x = y) (k : Z l E J R K cells slots ws (pc) (L) (.long y :: st)) : Z l E J R K cells slots ws (pc) (L) (.long x :: st) := by
  intro p e s m args below meth c C H locs ls hH hS hl
  subst h
  exact k p e s m args below meth c C H locs ls hH hS hl
theorem z_icmp_eq {a b : Int} {off : Int} (tgt : Nat) (hd : decode J.2.1 pc = .ok (.if_icmp .eq off, 3)) (ht : (pc : Int) + off = (tgt : Int)) (ha : -2147483648 ≤ a ∧ a ≤ 2147483647) (hb : -2147483648 ≤ b ∧ b ≤ 2147483647) (kt : a = b → Z l E J R K cells slots ws (tgt) (L) (st)) (kf : ¬ (a = b) → Z l E J R K cells slots ws (pc + 3) (L) (st)) : Z l E J R K cells slots ws (pc) (L) (.int (iI b) :: .int (iI a) :: st) := by
  intro p e s m args below meth c C H locs ls hH hS hl
  exact lv_icmp_eq C.1 C.2.1 hd ht (fun h => kt ((iI_eq ha hb).mp h) p e s m args below meth c C H locs ls hH hS hl) (fun h => kf (fun q => h ((iI_eq ha hb).mpr q)) p e s m args below meth c C H locs ls hH hS hl)
theorem z_icmp_ne {a b : Int} {off : Int} (tgt : Nat) (hd : decode J.2.1 pc = .ok (.if_icmp .ne off, 3)) (ht : (pc : Int) + off = (tgt : Int)) (ha : -2147483648 ≤ a ∧ a ≤ 2147483647) (hb : -2147483648 ≤ b ∧ b ≤ 2147483647) (kt : ¬ a = b → Z l E J R K cells slots ws (tgt) (L) (st)) (kf : a = b → Z l E J R K cells slots ws (pc + 3) (L) (st)) : Z l E J R K cells slots ws (pc) (L) (.int (iI b) :: .int (iI a) :: st) := by
  intro p e s m args below meth c C H locs ls hH hS hl
  exact lv_icmp_ne C.1 C.2.1 hd ht (fun h => kt ((not_congr (iI_eq ha hb)).mp h) p e s m args below meth c C H locs ls hH hS hl) (fun h => kf ((iI_eq ha hb).mp h) p e s m args below meth c C H locs ls hH hS hl)
theorem z_icmp_lt {a b : Int} {off : Int} (tgt : Nat) (hd : decode J.2.1 pc = .ok (.if_icmp .lt off, 3)) (ht : (pc : Int) + off = (tgt : Int)) (ha : -2147483648 ≤ a ∧ a ≤ 2147483647) (hb : -2147483648 ≤ b ∧ b ≤ 2147483647) (kt : a < b → Z l E J R K cells slots ws (tgt) (L) (st)) (kf : ¬ (a < b) → Z l E J R K cells slots ws (pc + 3) (L) (st)) : Z l E J R K cells slots ws (pc) (L) (.int (iI b) :: .int (iI a) :: st) := by
  intro p e s m args below meth c C H locs ls hH hS hl
  exact lv_icmp_lt C.1 C.2.1 hd ht (fun h => kt ((iI_lt ha hb).mp h) p e s m args below meth c C H locs ls hH hS hl) (fun h => kf (fun q => h ((iI_lt ha hb).mpr q)) p e s m args below meth c C H locs ls hH hS hl)
theorem z_icmp_ge {a b : Int} {off : Int} (tgt : Nat) (hd : decode J.2.1 pc = .ok (.if_icmp .ge off, 3)) (ht : (pc : Int) + off = (tgt : Int)) (ha : -2147483648 ≤ a ∧ a ≤ 2147483647) (hb : -2147483648 ≤ b ∧ b ≤ 2147483647) (kt : b ≤ a → Z l E J R K cells slots ws (tgt) (L) (st)) (kf : ¬ (b ≤ a) → Z l E J R K cells slots ws (pc + 3) (L) (st)) : Z l E J R K cells slots ws (pc) (L) (.int (iI b) :: .int (iI a) :: st) := by
  intro p e s m args below meth c C H locs ls hH hS hl
  exact lv_icmp_ge C.1 C.2.1 hd ht (fun h => kt ((iI_le hb ha).mp h) p e s m args below meth c C H locs ls hH hS hl) (fun h => kf (fun q => h ((iI_le hb ha).mpr q)) p e s m args below meth c C H locs ls hH hS hl)
theorem z_icmp_gt {a b : Int} {off : Int} (tgt : Nat) (hd : decode J.2.1 pc = .ok (.if_icmp .gt off, 3)) (ht : (pc : Int) + off = (tgt : Int)) (ha : -2147483648 ≤ a ∧ a ≤ 2147483647) (hb : -2147483648 ≤ b ∧ b ≤ 2147483647) (kt : b < a → Z l E J R K cells slots ws (tgt) (L) (st)) (kf : ¬ (b < a) → Z l E J R K cells slots ws (pc + 3) (L) (st)) : Z l E J R K cells slots ws (pc) (L) (.int (iI b) :: .int (iI a) :: st) := by
  intro p e s m args below meth c C H locs ls hH hS hl
  exact lv_icmp_gt C.1 C.2.1 hd ht (fun h => kt ((iI_lt hb ha).mp h) p e s m args below meth c C H locs ls hH hS hl) (fun h => kf (fun q => h ((iI_lt hb ha).mpr q)) p e s m args below meth c C H locs ls hH hS hl)
theorem z_icmp_le {a b : Int} {off : Int} (tgt : Nat) (hd : decode J.2.1 pc = .ok (.if_icmp .le off, 3)) (ht : (pc : Int) + off = (tgt : Int)) (ha : -2147483648 ≤ a ∧ a ≤ 2147483647) (hb : -2147483648 ≤ b ∧ b ≤ 2147483647) (kt : a ≤ b → Z l E J R K cells slots ws (tgt) (L) (st)) (kf : ¬ (a ≤ b) → Z l E J R K cells slots ws (pc + 3) (L) (st)) : Z l E J R K cells slots ws (pc) (L) (.int (iI b) :: .int (iI a) :: st) := by
  intro p e s m args below meth c C H locs ls hH hS hl
  exact lv_icmp_le C.1 C.2.1 hd ht (fun h => kt ((iI_le ha hb).mp h) p e s m args below meth c C H locs ls hH hS hl) (fun h => kf (fun q => h ((iI_le ha hb).mpr q)) p e s m args below meth c C H locs ls hH hS hl)
theorem z_if_eq {a : Int} {off : Int} (tgt : Nat) (hd : decode J.2.1 pc = .ok (.ifCond .eq off, 3)) (ht : (pc : Int) + off = (tgt : Int)) (ha : -2147483648 ≤ a ∧ a ≤ 2147483647) (kt : a = 0 → Z l E J R K cells slots ws (tgt) (L) (st)) (kf : ¬ (a = 0) → Z l E J R K cells slots ws (pc + 3) (L) (st)) : Z l E J R K cells slots ws (pc) (L) (.int (iI a) :: st) := by
  intro p e s m args below meth c C H locs ls hH hS hl
  exact lv_if_eq C.1 C.2.1 hd ht (fun h => kt ((iI_eq ha ⟨by decide, by decide⟩).mp h) p e s m args below meth c C H locs ls hH hS hl) (fun h => kf (fun q => h ((iI_eq ha ⟨by decide, by decide⟩).mpr q)) p e s m args below meth c C H locs ls hH hS hl)
theorem z_ifx_eq {x : Int32} {off : Int} (tgt : Nat) (hd : decode J.2.1 pc = .ok (.ifCond .eq off, 3)) (ht : (pc : Int) + off = (tgt : Int)) (kt : x = 0 → Z l E J R K cells slots ws (tgt) (L) (st)) (kf : ¬ (x = 0) → Z l E J R K cells slots ws (pc + 3) (L) (st)) : Z l E J R K cells slots ws (pc) (L) (.int x :: st) := by
  intro p e s m args below meth c C H locs ls hH hS hl
  exact lv_if_eq C.1 C.2.1 hd ht (fun h => kt h p e s m args below meth c C H locs ls hH hS hl) (fun h => kf h p e s m args below meth c C H locs ls hH hS hl)
theorem z_if_ne {a : Int} {off : Int} (tgt : Nat) (hd : decode J.2.1 pc = .ok (.ifCond .ne off, 3)) (ht : (pc : Int) + off = (tgt : Int)) (ha : -2147483648 ≤ a ∧ a ≤ 2147483647) (kt : ¬ a = 0 → Z l E J R K cells slots ws (tgt) (L) (st)) (kf : a = 0 → Z l E J R K cells slots ws (pc + 3) (L) (st)) : Z l E J R K cells slots ws (pc) (L) (.int (iI a) :: st) := by
  intro p e s m args below meth c C H locs ls hH hS hl
  exact lv_if_ne C.1 C.2.1 hd ht (fun h => kt ((not_congr (iI_eq ha ⟨by decide, by decide⟩)).mp h) p e s m args below meth c C H locs ls hH hS hl) (fun h => kf ((iI_eq ha ⟨by decide, by decide⟩).mp h) p e s m args below meth c C H locs ls hH hS hl)
theorem z_ifx_ne {x : Int32} {off : Int} (tgt : Nat) (hd : decode J.2.1 pc = .ok (.ifCond .ne off, 3)) (ht : (pc : Int) + off = (tgt : Int)) (kt : ¬ x = 0 → Z l E J R K cells slots ws (tgt) (L) (st)) (kf : x = 0 → Z l E J R K cells slots ws (pc + 3) (L) (st)) : Z l E J R K cells slots ws (pc) (L) (.int x :: st) := by
  intro p e s m args below meth c C H locs ls hH hS hl
  exact lv_if_ne C.1 C.2.1 hd ht (fun h => kt h p e s m args below meth c C H locs ls hH hS hl) (fun h => kf h p e s m args below meth c C H locs ls hH hS hl)
theorem z_if_lt {a : Int} {off : Int} (tgt : Nat) (hd : decode J.2.1 pc = .ok (.ifCond .lt off, 3)) (ht : (pc : Int) + off = (tgt : Int)) (ha : -2147483648 ≤ a ∧ a ≤ 2147483647) (kt : a < 0 → Z l E J R K cells slots ws (tgt) (L) (st)) (kf : ¬ (a < 0) → Z l E J R K cells slots ws (pc + 3) (L) (st)) : Z l E J R K cells slots ws (pc) (L) (.int (iI a) :: st) := by
  intro p e s m args below meth c C H locs ls hH hS hl
  exact lv_if_lt C.1 C.2.1 hd ht (fun h => kt ((iI_lt ha ⟨by decide, by decide⟩).mp h) p e s m args below meth c C H locs ls hH hS hl) (fun h => kf (fun q => h ((iI_lt ha ⟨by decide, by decide⟩).mpr q)) p e s m args below meth c C H locs ls hH hS hl)
theorem z_ifx_lt {x : Int32} {off : Int} (tgt : Nat) (hd : decode J.2.1 pc = .ok (.ifCond .lt off, 3)) (ht : (pc : Int) + off = (tgt : Int)) (kt : x < 0 → Z l E J R K cells slots ws (tgt) (L) (st)) (kf : ¬ (x < 0) → Z l E J R K cells slots ws (pc + 3) (L) (st)) : Z l E J R K cells slots ws (pc) (L) (.int x :: st) := by
  intro p e s m args below meth c C H locs ls hH hS hl
  exact lv_if_lt C.1 C.2.1 hd ht (fun h => kt h p e s m args below meth c C H locs ls hH hS hl) (fun h => kf h p e s m args below meth c C H locs ls hH hS hl)
theorem z_if_ge {a : Int} {off : Int} (tgt : Nat) (hd : decode J.2.1 pc = .ok (.ifCond .ge off, 3)) (ht : (pc : Int) + off = (tgt : Int)) (ha : -2147483648 ≤ a ∧ a ≤ 2147483647) (kt : 0 ≤ a → Z l E J R K cells slots ws (tgt) (L) (st)) (kf : ¬ (0 ≤ a) → Z l E J R K cells slots ws (pc + 3) (L) (st)) : Z l E J R K cells slots ws (pc) (L) (.int (iI a) :: st) := by
  intro p e s m args below meth c C H locs ls hH hS hl
  exact lv_if_ge C.1 C.2.1 hd ht (fun h => kt ((iI_le ⟨by decide, by decide⟩ ha).mp h) p e s m args below meth c C H locs ls hH hS hl) (fun h => kf (fun q => h ((iI_le ⟨by decide, by decide⟩ ha).mpr q)) p e s m args below meth c C H locs ls hH hS hl)
theorem z_ifx_ge {x : Int32} {off : Int} (tgt : Nat) (hd : decode J.2.1 pc = .ok (.ifCond .ge off, 3)) (ht : (pc : Int) + off = (tgt : Int)) (kt : 0 ≤ x → Z l E J R K cells slots ws (tgt) (L) (st)) (kf : ¬ (0 ≤ x) → Z l E J R K cells slots ws (pc + 3) (L) (st)) : Z l E J R K cells slots ws (pc) (L) (.int x :: st) := by
  intro p e s m args below meth c C H locs ls hH hS hl
  exact lv_if_ge C.1 C.2.1 hd ht (fun h => kt h p e s m args below meth c C H locs ls hH hS hl) (fun h => kf h p e s m args below meth c C H locs ls hH hS hl)
theorem z_if_gt {a : Int} {off : Int} (tgt : Nat) (hd : decode J.2.1 pc = .ok (.ifCond .gt off, 3)) (ht : (pc : Int) + off = (tgt : Int)) (ha : -2147483648 ≤ a ∧ a ≤ 2147483647) (kt : 0 < a → Z l E J R K cells slots ws (tgt) (L) (st)) (kf : ¬ (0 < a) → Z l E J R K cells slots ws (pc + 3) (L) (st)) : Z l E J R K cells slots ws (pc) (L) (.int (iI a) :: st) := by
  intro p e s m args below meth c C H locs ls hH hS hl
  exact lv_if_gt C.1 C.2.1 hd ht (fun h => kt ((iI_lt ⟨by decide, by decide⟩ ha).mp h) p e s m args below meth c C H locs ls hH hS hl) (fun h => kf (fun q => h ((iI_lt ⟨by decide, by decide⟩ ha).mpr q)) p e s m args below meth c C H locs ls hH hS hl)
theorem z_ifx_gt {x : Int32} {off : Int} (tgt : Nat) (hd : decode J.2.1 pc = .ok (.ifCond .gt off, 3)) (ht : (pc : Int) + off = (tgt : Int)) (kt : 0 < x → Z l E J R K cells slots ws (tgt) (L) (st)) (kf : ¬ (0 < x) → Z l E J R K cells slots ws (pc + 3) (L) (st)) : Z l E J R K cells slots ws (pc) (L) (.int x :: st) := by
  intro p e s m args below meth c C H locs ls hH hS hl
  exact lv_if_gt C.1 C.2.1 hd ht (fun h => kt h p e s m args below meth c C H locs ls hH hS hl) (fun h => kf h p e s m args below meth c C H locs ls hH hS hl)
theorem z_if_le {a : Int} {off : Int} (tgt : Nat) (hd : decode J.2.1 pc = .ok (.ifCond .le off, 3)) (ht : (pc : Int) + off = (tgt : Int)) (ha : -2147483648 ≤ a ∧ a ≤ 2147483647) (kt : a ≤ 0 → Z l E J R K cells slots ws (tgt) (L) (st)) (kf : ¬ (a ≤ 0) → Z l E J R K cells slots ws (pc + 3) (L) (st)) : Z l E J R K cells slots ws (pc) (L) (.int (iI a) :: st) := by
  intro p e s m args below meth c C H locs ls hH hS hl
  exact lv_if_le C.1 C.2.1 hd ht (fun h => kt ((iI_le ha ⟨by decide, by decide⟩).mp h) p e s m args below meth c C H locs ls hH hS hl) (fun h => kf (fun q => h ((iI_le ha ⟨by decide, by decide⟩).mpr q)) p e s m args below meth c C H locs ls hH hS hl)
theorem z_ifx_le {x : Int32} {off : Int} (tgt : Nat) (hd : decode J.2.1 pc = .ok (.ifCond .le off, 3)) (ht : (pc : Int) + off = (tgt : Int)) (kt : x ≤ 0 → Z l E J R K cells slots ws (tgt) (L) (st)) (kf : ¬ (x ≤ 0) → Z l E J R K cells slots ws (pc + 3) (L) (st)) : Z l E J R K cells slots ws (pc) (L) (.int x :: st) := by
  intro p e s m args below meth c C H locs ls hH hS hl
  exact lv_if_le C.1 C.2.1 hd ht (fun h => kt h p e s m args below meth c C H locs ls hH hS hl) (fun h => kf h p e s m args below meth c C H locs ls hH hS hl)
theorem z_goto {off : Int} (tgt : Nat) (hd : decode J.2.1 pc = .ok (.goto off, 3)) (ht : (pc : Int) + off = (tgt : Int)) (k : Z l E J R K cells slots ws (tgt) (L) (st)) : Z l E J R K cells slots ws (pc) (L) (st) := by
  intro p e s m args below meth c C H locs ls hH hS hl
  exact lv_goto C.1 C.2.1 hd ht (k p e s m args below meth c C H locs ls hH hS hl)
theorem z_ifnonnull {x : Nat} {off : Int} (tgt : Nat) (hd : decode J.2.1 pc = .ok (.ifnonnull off, 3)) (ht : (pc : Int) + off = (tgt : Int)) (k : Z l E J R K cells slots ws (tgt) (L) (st)) : Z l E J R K cells slots ws (pc) (L) (.ref x :: st) := by
  intro p e s m args below meth c C H locs ls hH hS hl
  exact lv_ifnonnull C.1 C.2.1 hd ht (k p e s m args below meth c C H locs ls hH hS hl)
theorem z_ifnull {x : Nat} {off : Int} (hd : decode J.2.1 pc = .ok (.ifnull off, 3)) (k : Z l E J R K cells slots ws (pc + 3) (L) (st)) : Z l E J R K cells slots ws (pc) (L) (.ref x :: st) := by
  intro p e s m args below meth c C H locs ls hH hS hl
  exact lv_ifnull C.1 C.2.1 hd (k p e s m args below meth c C H locs ls hH hS hl)
theorem z_ifnullN {off : Int} (tgt : Nat) (hd : decode J.2.1 pc = .ok (.ifnull off, 3)) (ht : (pc : Int) + off = (tgt : Int)) (k : Z l E J R K cells slots ws (tgt) (L) (st)) : Z l E J R K cells slots ws (pc) (L) (.null :: st) := by
  intro p e s m args below meth c C H locs ls hH hS hl
  exact lv_ifnullN C.1 C.2.1 hd ht (k p e s m args below meth c C H locs ls hH hS hl)
theorem z_ifnonnullN {off : Int} (hd : decode J.2.1 pc = .ok (.ifnonnull off, 3)) (k : Z l E J R K cells slots ws (pc + 3) (L) (st)) : Z l E J R K cells slots ws (pc) (L) (.null :: st) := by
  intro p e s m args below meth c C H locs ls hH hS hl
  exact lv_ifnonnullN C.1 C.2.1 hd (k p e s m args below meth c C H locs ls hH hS hl)
theorem z_tabOut {dflt lo hi : Int} {offs : Array Int} {len : Nat} {x : Int32} (tgt : Nat) (hd : decode J.2.1 pc = .ok (.tableswitch dflt lo hi offs, len)) (h : x.toInt < lo ∨ hi < x.toInt) (ht : (pc : Int) + dflt = (tgt : Int)) (k : Z l E J R K cells slots ws (tgt) (L) (st)) : Z l E J R K cells slots ws (pc) (L) (.int x :: st) := by
  intro p e s m args below meth c C H locs ls hH hS hl
  exact lv_tableOut C.1 C.2.1 hd h ht (k p e s m args below meth c C H locs ls hH hS hl)
theorem z_tabIn {dflt lo hi : Int} {offs : Array Int} {len : Nat} {x : Int32} {off : Int} (tgt : Nat) (v : Int) (hd : decode J.2.1 pc = .ok (.tableswitch dflt lo hi offs, len)) (hv : x.toInt = v) (h1 : ¬ v < lo) (h2 : ¬ hi < v) (ho : offs[(v - lo).toNat]? = some off) (ht : (pc : Int) + off = (tgt : Int)) (k : Z l E J R K cells slots ws (tgt) (L) (st)) : Z l E J R K cells slots ws (pc) (L) (.int x :: st) := by
  intro p e s m args below meth c C H locs ls hH hS hl
  subst hv
  exact lv_tableIn C.1 C.2.1 hd h1 h2 ho ht (k p e s m args below meth c C H locs ls hH hS hl)
theorem z_lookup {dflt : Int} {ps : Array (Int × Int)} {len : Nat} {x : Int32} {off : Int} (tgt : Nat) (hd : decode J.2.1 pc = .ok (.lookupswitch dflt ps, len)) (hp : (ps.toList.zip (ps.toList.drop 1)).all (fun (a, next) => a.1 < next.1) = true) (ho : Op.lookupswitch.offset ps.toList dflt x.toInt = off) (ht : (pc : Int) + off = (tgt : Int)) (k : Z l E J R K cells slots ws (tgt) (L) (st)) : Z l E J R K cells slots ws (pc) (L) (.int x :: st) := by
  intro p e s m args below meth c C H locs ls hH hS hl
  exact lv_lookup C.1 C.2.1 hd hp ho ht (k p e s m args below meth c C H locs ls hH hS hl)
theorem z_widen {c2 s2 : Nat} (h1 : cells ≤ c2) (h2 : slots ≤ s2) (k : Z l E J R K c2 s2 ws pc L st) : Z l E J R K cells slots ws pc L st := by
  intro p e s m args below meth c C H locs ls hH hS hl
  exact W.widen h1 h2 (k p e s m args below meth c C H locs ls hH hS hl)
variable {mc ms : Nat} {post : Option Value → List va_E → Prop}
theorem z_ireturn {x : Int32} (hd : decode J.2.1 pc = .ok (.ireturn, 1)) (hr : J.2.2.2 = some .int) (h : post (some (.int x)) ws) : Z l E J R (zEnd E mc ms post) mc ms ws pc L [.int x] := by
  intro p e s m args below meth c C H locs ls hH hS hl
  have hlocks : meth.locks = false := C.2.2.2.2.2.2.2.1
  exact W.iret C.1 C.2.1 (C.2.2.2.2.2.2.2.2.1.trans hr) (fun t ht hW => ⟨⟨_, ws, rfl, h, by rw [ht]; exact hH⟩, hS.F ht⟩) hS.2.2 hd
theorem z_zreturn {x : Int32} (hd : decode J.2.1 pc = .ok (.ireturn, 1)) (hr : J.2.2.2 = some .boolean) (hn : narrow .boolean (.int x) = .int x) (h : post (some (.int x)) ws) : Z l E J R (zEnd E mc ms post) mc ms ws pc L [.int x] := by
  intro p e s m args below meth c C H locs ls hH hS hl
  have hlocks : meth.locks = false := C.2.2.2.2.2.2.2.1
  exact W.zret C.1 C.2.1 (C.2.2.2.2.2.2.2.2.1.trans hr) hn (fun t ht hW => ⟨⟨_, ws, rfl, h, by rw [ht]; exact hH⟩, hS.F ht⟩) hS.2.2 hd
theorem z_lreturn {x : Int64} (hd : decode J.2.1 pc = .ok (.lreturn, 1)) (hr : J.2.2.2 = some .long) (h : post (some (.long x)) ws) : Z l E J R (zEnd E mc ms post) mc ms ws pc L [.long x] := by
  intro p e s m args below meth c C H locs ls hH hS hl
  have hlocks : meth.locks = false := C.2.2.2.2.2.2.2.1
  exact W.lret C.1 C.2.1 (C.2.2.2.2.2.2.2.2.1.trans hr) (fun t ht hW => ⟨⟨_, ws, rfl, h, by rw [ht]; exact hH⟩, hS.F ht⟩) hS.2.2 hd
theorem z_areturn {x : Nat} {rt : FieldType} (hd : decode J.2.1 pc = .ok (.areturn, 1)) (hr : J.2.2.2 = some rt) (hrt : (∃ n, rt = .object n) ∨ ∃ t, rt = .array t) (h : post (some (.ref x)) ws) : Z l E J R (zEnd E mc ms post) mc ms ws pc L [.ref x] := by
  intro p e s m args below meth c C H locs ls hH hS hl
  have hlocks : meth.locks = false := C.2.2.2.2.2.2.2.1
  exact W.aret C.1 C.2.1 (C.2.2.2.2.2.2.2.2.1.trans hr) hrt (Or.inr ⟨x, rfl⟩) (fun t ht hW => ⟨⟨_, ws, rfl, h, by rw [ht]; exact hH⟩, hS.F ht⟩) hS.2.2 hd
theorem z_areturnN {rt : FieldType} (hd : decode J.2.1 pc = .ok (.areturn, 1)) (hr : J.2.2.2 = some rt) (hrt : (∃ n, rt = .object n) ∨ ∃ t, rt = .array t) (h : post (some .null) ws) : Z l E J R (zEnd E mc ms post) mc ms ws pc L [.null] := by
  intro p e s m args below meth c C H locs ls hH hS hl
  have hlocks : meth.locks = false := C.2.2.2.2.2.2.2.1
  exact W.aret C.1 C.2.1 (C.2.2.2.2.2.2.2.2.1.trans hr) hrt (Or.inl rfl) (fun t ht hW => ⟨⟨_, ws, rfl, h, by rw [ht]; exact hH⟩, hS.F ht⟩) hS.2.2 hd
theorem z_return (hd : decode J.2.1 pc = .ok (.return_, 1)) (hr : J.2.2.2 = none) (h : post none ws) : Z l E J R (zEnd E mc ms post) mc ms ws pc L [] := by
  intro p e s m args below meth c C H locs ls hH hS hl
  have hlocks : meth.locks = false := C.2.2.2.2.2.2.2.1
  exact W.vret C.1 C.2.1 (C.2.2.2.2.2.2.2.2.1.trans hr) (fun t ht hW => ⟨⟨_, ws, rfl, h, by rw [ht]; exact hH⟩, hS.F ht⟩) hS.2.2 hd
/-- a contract out of its body -/
theorem zC_of {rm : Room} {av : List Value} (hy : plainName J.1.cls = true) (hn : (lg_sl av).length ≤ J.2.2.1) (k : Z l E J rm (zEnd E rm.cells rm.slots post) 0 0 ws 0 (lv_args 0 av) []) : zC l E J rm av ws post := by
  refine Met.ofW (cc := J.2.1) (maxL := J.2.2.1) (ret := J.2.2.2) hy rfl ?_
  intro p e s m args below meth c s₁ B hml hv
  obtain ⟨rfl, hH, hG⟩ := hv
  have hts := atoms_spec (ws := zws J) B.pre
  have hl := lv_entry av (n := J.2.2.1) hn
  rw [lg_entry_eq]
  exact k p e s m _ below meth c ⟨B.exec, B.bytes, hml, findClass_of_methodNamed B.named, fun w hw => hts w (List.mem_cons_of_mem _ hw), hG, by rw [hH.1]; omega, B.notSynchronized, B.returns, (name_of_methodNamed B.named B.method).1⟩ s.heap [] _ hH va_S.rf hl
end ZR
