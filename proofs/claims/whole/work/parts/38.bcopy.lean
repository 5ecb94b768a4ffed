theorem zwc1 : Cond.methodLink RJ7 304 Lib.Math.min.name ∈ zwt := zt2 (i := 157) (by decide +kernel) rfl
theorem zwc2 : Cond.methodLink RJ7 150 arraycopyName ∈ zwt := zt2 (i := 158) (by decide +kernel) rfl
theorem zwc3 : Cond.static arraycopyName ∈ zwt := zt2 (i := 159) (by decide +kernel) rfl
theorem zwc4 : Cond.native arraycopyName ∈ zwt := zt2 (i := 160) (by decide +kernel) rfl
theorem zwc5 : Cond.initialized "java/lang/System" ∈ zwt := zt1 (i := 11) (by decide +kernel) rfl
theorem mJ7_304 : zmath RJ7 304 Lib.Math.min.name Lib.Math.min.code 2 .int := ⟨zwc1, mX1_20.2⟩
section BCp
variable {l : Launch} {E : zEnv} {J : zM} {R : Room} {K : zK} {cells slots : Nat} {ws : List va_E} {pc : Nat} {L : List (Nat × Value)} {st : List Value}
set_option maxHeartbeats 4000000 in
/-- System.arraycopy from the first place of a row of ints to the first of another -/
theorem z_copyi {idx r d N M : Nat} {f g : Nat → Int} {n : Int} (hd : decode J.2.1 pc = .ok (.invokestatic idx, 3)) (hw : Cond.methodLink J.1.cls idx arraycopyName ∈ zwt) (hc0 : ws[r]? = some (zI E N f)) (hc1 : ws[d]? = some (zI E M g)) (hn : 0 ≤ n ∧ n ≤ N ∧ n ≤ M) (hn2 : n ≤ 2147483647) (hf : 1 ≤ R.frames) (hl0 : (st.map fun v => v.category).sum + (nativeFrameWords "java/lang/System" "arraycopy" 5 + 11) ≤ R.locals) (k : Z l E J R K cells slots (ws.set d (zI E M (fun j => if j < n.toNat then f j else g j))) (pc + 3) L st) : Z l E J R K cells slots ws pc L (.int (iI n) :: .int (iI 0) :: .ref (zb E + d) :: .int (iI 0) :: .ref (zb E + r) :: st) := by
  intro p e s m args below meth c C H locs ls hH hS hl
  have hD := zl_D E ws
  have hK := C.2.2.2.2.2.1.1
  have ha0 := zl_at (b := zb E) hc0
  have ha1 := zl_at (b := zb E) hc1
  have hcl : (iI n).toNatClampNeg = n.toNat := iI_clamp (by omega)
  have h00 : (iI 0).toNatClampNeg = 0 := rfl
  have hz0 : ¬ iI 0 < 0 := by decide
  have hzn : ¬ iI n < 0 := by
    intro h
    rw [← iI_0, iI_lt (by omega) (by omega)] at h
    omega
  have ei : (iI n).toInt = n := iI_toInt (by omega)
  have ei0 : (iI 0).toInt = 0 := rfl
  intro T hT X
  have q0 : H[zb E + r]? = some (vp_cell (zc E 0) (N, .inl (fun j => iI (f j)))) := hH.2 r _ ha0
  have q1 : H[zb E + d]? = some (vp_cell (zc E 0) (M, .inl (fun j => iI (g j)))) := hH.2 d _ ha1
  obtain ⟨-, k0, hk0, cm0, hkk0⟩ := (hK.2 0 _ rfl).1 N (fun j => .int (iI (f j)))
  obtain ⟨-, k1, hk1, cm1, hkk1⟩ := (hK.2 0 _ rfl).1 M (fun j => .int (iI (g j)))
  obtain ⟨vm', X', step⟩ := X.arraycopy C.1 C.2.2.2.1 (C.2.2.2.2.1 _ hw) (C.2.2.2.2.1 _ zwc4) (C.2.2.2.2.1 _ zwc3) (C.2.2.2.2.1 _ zwc5) (src := zb E + r) (dst := zb E + d) (cs := vp_cell (zc E 0) (N, .inl (fun j => iI (f j)))) (cd := vp_cell (zc E 0) (M, .inl (fun j => iI (g j)))) (srcPos := iI 0) (destPos := iI 0) (n := iI n) (by rw [hT]; exact q0) (by rw [hT]; exact q1)
    (fun _ h => by cases h) (fun _ h => by cases h) (fun h => by cases h) (fun h => by cases h) hk0 hk1 hkk0 hkk1 (by simp [refKind]) hz0 hz0 hzn
    (by rw [ei, ei0]; show ¬ _ > ((arrV (zc E 0) N (fun j => .int (iI (f j)))).slots.size : Int); rw [arrV_size]; omega)
    (by rw [ei, ei0]; show ¬ _ > ((arrV (zc E 0) M (fun j => .int (iI (g j)))).slots.size : Int); rw [arrV_size]; omega)
    (fun vm₁ _ i hi => by
      have e1 : (vp_cell (zc E 0) (N, .inl (fun j => iI (f j)))).slots.getD ((iI 0).toNatClampNeg + i) .null = .int (iI (f (0 + i))) := by
        show (arrV (zc E 0) N (fun j => .int (iI (f j)))).slots.getD (0 + i) _ = _
        rw [Array.getD_eq_getD_getElem?, arrV_read _ _ (by omega)]
        rfl
      rw [e1]
      exact ⟨rfl, trivial⟩)
    (g := F0 m pc ls (.int (iI n) :: .int (iI 0) :: .ref (zb E + d) :: .int (iI 0) :: .ref (zb E + r) :: st)) rfl (by rw [C.2.2.1, hl.1]) (rest := st) rfl (by rw [C.2.1]; exact hd) hf (by show 2 * 0 + _ + _ ≤ _; omega)
  have e1 : copied (vp_cell (zc E 0) (N, .inl (fun j => iI (f j)))) (vp_cell (zc E 0) (M, .inl (fun j => iI (g j)))) (iI 0) (iI 0) (iI n) = vp_cell (zc E 0) (M, .inl (va_cpy (fun j => iI (f j)) (fun j => iI (g j)) (iI 0).toNatClampNeg (iI 0).toNatClampNeg (iI n).toNatClampNeg)) := va_copied (fun z => .int z) (zc E 0) (zc E 0) (sp := (iI 0).toNatClampNeg) (dp := (iI 0).toNatClampNeg) (n := (iI n).toNatClampNeg) (n0 := N) (n1 := M) (fun j => iI (f j)) (fun j => iI (g j)) (by show 0 + (iI n).toNatClampNeg ≤ N; rw [hcl]; omega)
  have e2 : va_cpy (fun j => iI (f j)) (fun j => iI (g j)) (iI 0).toNatClampNeg (iI 0).toNatClampNeg (iI n).toNatClampNeg = fun j => iI (if j < n.toNat then f j else g j) := by
    funext j
    rw [hcl, h00]
    unfold va_cpy
    by_cases h : j < n.toNat
    · rw [if_pos (by omega), if_pos h]
      simp
    · rw [if_neg (by omega), if_neg h]
  rw [e1, e2] at X' step
  have hlt : zb E + d < H.size := (Array.getElem?_eq_some_iff.mp q1).1
  generalize hv : vp_cell (zc E 0) (M, .inl (fun j => iI (if j < n.toNat then f j else g j))) = V at X' step
  have hheap : ((T.setVm vm').setCell (zb E + d) V).heap = H.setIfInBounds (zb E + d) V := by rw [← hT]; rfl
  have oq : ∀ q : Nat, q ≠ zb E + d → (H.setIfInBounds (zb E + d) V)[q]? = H[q]? := fun q hq => by simp [Array.getElem?_setIfInBounds, Ne.symm hq]
  have hP2 : zH E (ws.set d (zI E M (fun j => if j < n.toNat then f j else g j))) (H.setIfInBounds (zb E + d) V) := hH.put (by simp) (hH.2.set hD ha1 (show va_at _ _ _ _ by show (H.setIfInBounds (zb E + d) V)[zb E + d]? = some _; rw [show (vp_cell (zc E 0) (M, .inl (fun j => iI (if j < n.toNat then f j else g j)))) = V from hv]; simp [Array.getElem?_setIfInBounds, hlt]) oq)
  obtain ⟨t, a1, b1⟩ := k p e s m args below meth c C _ _ ls hP2 ⟨by simp; exact hS.1, fun q g1 g2 => by
      rw [oq q (fun e => g2 (by rw [e]; exact hD.2 d _ ha1))]
      exact hS.2.1 q g1 g2, fun q hq => by
      rcases List.mem_append.mp hq with h | h
      · exact hS.2.2 q h
      · obtain ⟨z, -, hz⟩ := List.mem_map.mp h
        rw [← hz]
        exact hD.2 d _ ha1⟩ hl _ hheap X'
  exact ⟨t, step t a1, b1⟩
end BCp
/-- the row r, c places of it, in the new cell n -/
def cpI (I : Nat → Nat → Int) (n r c : Nat) : Nat → Nat → Int := fun x b => if x = n then (if b < c then I r b else 0) else I x b
section BCq
variable {l : Launch} {E : zEnv} {J : zM} {R : Room} {K : zK} {cells slots : Nat} {pc : Nat} {L : List (Nat × Value)} {st : List Value} {n : Nat} {sh : Nat → Nat × Nat} {I : Nat → Nat → Int} {P : Nat → Nat → Option Nat}
theorem y_copyi {idx r d N M : Nat} {c : Int} (hd : decode J.2.1 pc = .ok (.invokestatic idx, 3)) (hw : Cond.methodLink J.1.cls idx arraycopyName ∈ zwt) (hr : r < n) (hsr : sh r = (1, N)) (hdn : d < n) (hsd : sh d = (1, M)) (hn : 0 ≤ c ∧ c ≤ N ∧ c ≤ M) (hn2 : c ≤ 2147483647) (hf : 1 ≤ R.frames) (hl0 : (st.map fun v => v.category).sum + (nativeFrameWords "java/lang/System" "arraycopy" 5 + 11) ≤ R.locals) (k : Z l E J R K cells slots (zw E n sh (fun x b => if x = d then (if b < c.toNat then I r b else I d b) else I x b) P) (pc + 3) L st) : Z l E J R K cells slots (zw E n sh I P) pc L (.int (iI c) :: .int (iI 0) :: .ref (zb E + d) :: .int (iI 0) :: .ref (zb E + r) :: st) := by
  refine z_copyi hd hw (zw_I hr hsr) (zw_I hdn hsd) hn hn2 hf hl0 ?_
  rw [zw_set (I' := fun x b => if x = d then (if b < c.toNat then I r b else I d b) else I x b) (P' := P) hdn (by unfold zcell; rw [hsd]; simp only [if_true]) (fun a ha => by funext b; simp [ha]) (fun _ _ => rfl)]
  exact k
end BCq
section BCr
variable {l : Launch} {E : zEnv} {n : Nat} {sh : Nat → Nat × Nat} {I : Nat → Nat → Int} {P : Nat → Nat → Option Nat}
set_option maxHeartbeats 4000000 in
set_option maxRecDepth 100000 in
theorem c_J7_copyOf {r rl N : Nat} (hr1 : r < n) (hr2 : sh r = (1, rl)) (hrl : rl ≤ 80000) (hN : N ≤ 80000) (hne : rl < N) : yC l E jJ7_copyOf_59c91 ({ frames := 2, cells := 1, slots := N, locals := 60 } : Room) [.ref (zb E + r), .int (iI N)] n sh I P (fun v' n' sh' I' P' => v' = some (.ref (zb E + n)) ∧ n' = n + 1 ∧ sh' = zsh sh n (1, N) ∧ I' = cpI I n r (min rl N) ∧ P' = zcp P n) := by
  refine yC_of (by decide) (Nat.le_of_ble_eq_true rfl) ?_
  refine z_iload_n dJ7_copyOf_59c91_0 rfl ?_
  refine z_aload_n dJ7_copyOf_59c91_1 rfl ?_
  refine y_alen dJ7_copyOf_59c91_2 hr1 hr2 ?_
  refine z_icmp_ne 14 dJ7_copyOf_59c91_3 (by decide) (by omega) (by omega) (fun c_3 => ?_) (fun c_3 => absurd c_3 (show ¬ (N : Int) = (rl : Int) by omega))
  refine z_iload_n dJ7_copyOf_59c91_14 rfl ?_
  refine y_newai dJ7_copyOf_59c91_15 (by omega) (Nat.le_of_ble_eq_true rfl) (by show 0 + (N : Int).toNat ≤ N; omega) ?_
  refine z_astore_n dJ7_copyOf_59c91_17 (by decide) ?_
  refine z_aload_n dJ7_copyOf_59c91_18 rfl ?_
  refine z_iconst dJ7_copyOf_59c91_19 ?_
  refine z_aload_n dJ7_copyOf_59c91_20 rfl ?_
  refine z_iconst dJ7_copyOf_59c91_21 ?_
  refine z_aload_n dJ7_copyOf_59c91_22 rfl ?_
  refine y_alen dJ7_copyOf_59c91_23 (by omega) (by rw [zsh, if_neg (by omega)]; exact hr2) ?_
  refine z_iload_n dJ7_copyOf_59c91_24 rfl ?_
  refine z_min dJ7_copyOf_59c91_25 mJ7_304 (by omega) (by omega) (Nat.le_of_ble_eq_true rfl) (Nat.le_of_ble_eq_true rfl) (Nat.le_of_ble_eq_true rfl) (by show 0 + (N : Int).toNat ≤ N; omega) ?_
  refine y_copyi (N := rl) (M := (N : Int).toNat) dJ7_copyOf_59c91_28 zwc2 (by omega) (by rw [zsh, if_neg (by omega)]; exact hr2) (by omega) (by rw [zsh, if_pos rfl]) (by omega) (by omega) (Nat.le_of_ble_eq_true rfl) (Nat.le_of_ble_eq_true rfl) ?_
  refine z_aload_n dJ7_copyOf_59c91_31 rfl ?_
  refine z_widen (c2 := 1) (s2 := N) (Nat.le_of_ble_eq_true rfl) (by show 0 + (N : Int).toNat ≤ N; omega) ?_
  refine y_areturn dJ7_copyOf_59c91_32 rfl (Or.inr ⟨_, rfl⟩) ⟨rfl, rfl, ?_, ?_, rfl⟩
  · rw [Int.toNat_natCast]
  · funext x b
    unfold cpI
    by_cases e : x = n
    · rw [if_pos e, if_pos e, show (min (rl : Int) (N : Int)).toNat = min rl N by omega]
      simp only [zcl, if_true]
      rw [if_neg (show ¬ r = n by omega)]
    · rw [if_neg e, if_neg e, zcl, if_neg e]
end BCr
/-- how long the Ledger's row will be, and how much is made -/
def wkL (rl c : Nat) : Nat := if rl < 4 * c then max (4 * c) (min (2 * rl) 80000) else rl
def wkS (rl c : Nat) : Nat := if rl < 4 * c then max (4 * c) (min (2 * rl) 80000) else 0
section BMr
variable {l : Launch} {E : zEnv} {n : Nat} {sh : Nat → Nat × Nat} {I : Nat → Nat → Int} {P : Nat → Nat → Option Nat}
set_option maxHeartbeats 4000000 in
set_option maxRecDepth 100000 in
theorem c_X1_makeRoom (hB : yB n sh P) {r rl b : Nat} (hr0 : P 19 0 = some r) (hr1 : r < n) (hr2 : sh r = (1, rl)) (hrl : rl ≤ 80000) (hb : I 19 1 = (b : Int)) {d : Nat} (hd : b + d ≤ 20000) : yC l E jX1_makeRoom ({ frames := 3, cells := 1, slots := wkS rl (b + d), locals := 82 } : Room) [.ref (zb E + 19), .int (iI d)] n sh I P (fun v' n' sh' I' P' => v' = none ∧ ((¬ rl < 4 * (b + d) ∧ n' = n ∧ sh' = sh ∧ I' = I ∧ P' = P) ∨ (rl < 4 * (b + d) ∧ n' = n + 1 ∧ sh' = zsh sh n (1, wkL rl (b + d)) ∧ I' = cpI I n r rl ∧ P' = zpu (zcp P n) 19 0 (some n)))) := by
  refine yC_of (by decide) (Nat.le_of_ble_eq_true rfl) ?_
  refine z_iconst dX1_makeRoom_0 ?_
  refine z_aload_n dX1_makeRoom_1 rfl ?_
  refine y_getI dX1_makeRoom_2 fX1_15 (hB.lt (by decide)) (hB.2.1 19 (by decide)) rfl ?_
  refine z_top ((b : Int)) (hb) ?_
  refine z_iload_n dX1_makeRoom_5 rfl ?_
  refine z_iadd dX1_makeRoom_6 ?_
  refine z_imul dX1_makeRoom_7 ?_
  refine z_top (((4 * (b + d) : Nat) : Int)) (by omega) ?_
  refine z_istore_n dX1_makeRoom_8 (by decide) ?_
  refine z_iload_n dX1_makeRoom_9 rfl ?_
  refine z_aload_n dX1_makeRoom_10 rfl ?_
  refine y_getR dX1_makeRoom_11 fX1_11 (hB.lt (by decide)) (hB.2.1 19 (by decide)) rfl hr0 ?_
  refine y_alen dX1_makeRoom_14 hr1 hr2 ?_
  refine z_icmp_le 45 dX1_makeRoom_15 (by decide) (by omega) (by omega) (fun c_15 => ?_) (fun c_15 => ?_)
  · refine z_widen (c2 := 1) (s2 := wkS rl (b + d)) (Nat.le_of_ble_eq_true rfl) (by omega) ?_
    exact y_return dX1_makeRoom_45 rfl ⟨rfl, Or.inl ⟨by omega, rfl, rfl, rfl, rfl⟩⟩
  · have h52 := hB.1
    refine z_aload_n dX1_makeRoom_18 rfl ?_
    refine z_aload_n dX1_makeRoom_19 rfl ?_
    refine y_getR dX1_makeRoom_20 fX1_11 (hB.lt (by decide)) (hB.2.1 19 (by decide)) rfl hr0 ?_
    refine z_iload_n dX1_makeRoom_23 rfl ?_
    refine z_iconst dX1_makeRoom_24 ?_
    refine z_aload_n dX1_makeRoom_25 rfl ?_
    refine y_getR dX1_makeRoom_26 fX1_11 (hB.lt (by decide)) (hB.2.1 19 (by decide)) rfl hr0 ?_
    refine y_alen dX1_makeRoom_29 hr1 hr2 ?_
    refine z_imul dX1_makeRoom_30 ?_
    refine z_ldc _ dX1_makeRoom_31 qX1_19 ?_
    refine z_min dX1_makeRoom_33 mX1_20 (by omega) (by omega) (Nat.le_of_ble_eq_true rfl) (Nat.le_of_ble_eq_true rfl) (Nat.le_of_ble_eq_true rfl) (Nat.zero_le _) ?_
    refine z_max dX1_makeRoom_36 mX1_26 (by omega) (by omega) (Nat.le_of_ble_eq_true rfl) (Nat.le_of_ble_eq_true rfl) (Nat.le_of_ble_eq_true rfl) (Nat.zero_le _) ?_
    refine z_top ((wkL rl (b + d) : Nat) : Int) (by unfold wkL; rw [if_pos (by omega)]; omega) ?_
    have eL : wkL rl (b + d) = max (4 * (b + d)) (min (2 * rl) 80000) := by unfold wkL; rw [if_pos (by omega)]
    have eB : wkS rl (b + d) = wkL rl (b + d) := by unfold wkS wkL; rw [if_pos (by omega), if_pos (by omega)]
    refine y_callS dX1_makeRoom_39 kX1_29 (c_J7_copyOf (N := wkL rl (b + d)) hr1 hr2 hrl (by omega) (by omega)) rfl rfl (Nat.le_of_ble_eq_true rfl) ⟨⟨Nat.le_of_ble_eq_true rfl, Nat.le_of_ble_eq_true rfl⟩, Nat.le_of_ble_eq_true rfl, by show 0 + wkL rl (b + d) ≤ wkS rl (b + d); omega⟩ (fun v39 n39 sh39 I39 P39 hp39 => ?_)
    obtain ⟨rfl, rfl, rfl, rfl, rfl⟩ := hp39
    refine y_putR dX1_makeRoom_42 fX1_11 (by omega) (by rw [zsh, if_neg (by omega)]; exact hB.2.1 19 (by decide)) rfl rfl rfl ?_
    refine z_widen (c2 := 1) (s2 := wkS rl (b + d)) (Nat.le_of_ble_eq_true rfl) (by show 0 + wkL rl (b + d) ≤ wkS rl (b + d); omega) ?_
    exact y_return dX1_makeRoom_45 rfl ⟨rfl, Or.inr ⟨by omega, rfl, rfl, by unfold cpI; rw [show min rl (wkL rl (b + d)) = rl by omega], rfl⟩⟩
end BMr
