def bWr (I : Nat → Nat → Int) (r : Nat) (k f v t : Int) : Nat → Nat → Int := zup (zup (zup (zup I 4 r k) 5 r f) 6 r v) 7 r t
theorem sKn_succ (rt : Nat → Int) (q : Int) (s : Nat) : sKn rt q (s + 1) = if q < rt s then sKn rt q s else s + 1 := rfl
section BR
variable {l : Launch} {E : zEnv} {n : Nat} {sh : Nat → Nat × Nat} {I : Nat → Nat → Int} {P : Nat → Nat → Option Nat}
set_option maxHeartbeats 4000000 in
set_option maxRecDepth 100000 in
theorem c_X4_isKind {k : Int} (hk : (-2147483648 ≤ k ∧ k ≤ 2147483647)) : yC l E jX4_isKind (rm 0 0) [.int (iI k)] n sh I P (yR (some (.int (iI (bI (0 ≤ k ∧ k ≤ 6))))) n sh (I) P) := by
  refine yC_of (by decide) (Nat.le_of_ble_eq_true rfl) ?_
  refine z_iload_n dX4_isKind_0 rfl ?_
  refine z_if_lt 14 dX4_isKind_1 (by decide) (by omega) (fun c_1 => ?_) (fun c_1 => ?_)
  · refine z_iconst dX4_isKind_14 ?_
    refine y_zreturn dX4_isKind_15 rfl (by decide) ?_
    first | (rw [bI_t (by omega)]; exact yR_rfl) | (rw [bI_f (by omega)]; exact yR_rfl)
  · refine z_iload_n dX4_isKind_4 rfl ?_
    refine z_bipush dX4_isKind_5 rfl ?_
    refine z_icmp_ge 14 dX4_isKind_7 (by decide) (by omega) (by omega) (fun c_7 => ?_) (fun c_7 => ?_)
    · refine z_iconst dX4_isKind_14 ?_
      refine y_zreturn dX4_isKind_15 rfl (by decide) ?_
      first | (rw [bI_t (by omega)]; exact yR_rfl) | (rw [bI_f (by omega)]; exact yR_rfl)
    · refine z_iconst dX4_isKind_10 ?_
      refine z_goto 15 dX4_isKind_11 (by decide) ?_
      refine y_zreturn dX4_isKind_15 rfl (by decide) ?_
      first | (rw [bI_t (by omega)]; exact yR_rfl) | (rw [bI_f (by omega)]; exact yR_rfl)
set_option maxHeartbeats 4000000 in
set_option maxRecDepth 100000 in
theorem c_X4_isWeek {k : Int} (hk : (-2147483648 ≤ k ∧ k ≤ 2147483647)) : yC l E jX4_isWeek (rm 0 0) [.int (iI k)] n sh I P (yR (some (.int (iI (bI (0 ≤ k ∧ k ≤ 1000))))) n sh (I) P) := by
  refine yC_of (by decide) (Nat.le_of_ble_eq_true rfl) ?_
  refine z_iload_n dX4_isWeek_0 rfl ?_
  refine z_if_lt 15 dX4_isWeek_1 (by decide) (by omega) (fun c_1 => ?_) (fun c_1 => ?_)
  · refine z_iconst dX4_isWeek_15 ?_
    refine y_zreturn dX4_isWeek_16 rfl (by decide) ?_
    first | (rw [bI_t (by omega)]; exact yR_rfl) | (rw [bI_f (by omega)]; exact yR_rfl)
  · refine z_iload_n dX4_isWeek_4 rfl ?_
    refine z_sipush dX4_isWeek_5 rfl ?_
    refine z_icmp_gt 15 dX4_isWeek_8 (by decide) (by omega) (by omega) (fun c_8 => ?_) (fun c_8 => ?_)
    · refine z_iconst dX4_isWeek_15 ?_
      refine y_zreturn dX4_isWeek_16 rfl (by decide) ?_
      first | (rw [bI_t (by omega)]; exact yR_rfl) | (rw [bI_f (by omega)]; exact yR_rfl)
    · refine z_iconst dX4_isWeek_11 ?_
      refine z_goto 16 dX4_isWeek_12 (by decide) ?_
      refine y_zreturn dX4_isWeek_16 rfl (by decide) ?_
      first | (rw [bI_t (by omega)]; exact yR_rfl) | (rw [bI_f (by omega)]; exact yR_rfl)
set_option maxHeartbeats 4000000 in
set_option maxRecDepth 100000 in
theorem c_X4_mayBe {k f v : Int} (hk : (-2147483648 ≤ k ∧ k ≤ 2147483647)) (hf : (-2147483648 ≤ f ∧ f ≤ 2147483647)) (hv : (-2147483648 ≤ v ∧ v ≤ 2147483647)) : yC l E jX4_mayBe (rm 1 20) [.int (iI k), .int (iI f), .int (iI v)] n sh I P (yR (some (.int (iI (bI (sRule k f v))))) n sh (I) P) := by
  refine yC_of (by decide) (Nat.le_of_ble_eq_true rfl) ?_
  refine z_iload_n dX4_mayBe_0 rfl ?_
  refine y_callS dX4_mayBe_1 kX4_39 (c_X4_isKind hk) rfl rfl (Nat.le_of_ble_eq_true rfl) ⟨⟨by decide, by decide⟩, by decide, by decide⟩ (fun v1 n1 sh1 I1 P1 hp1 => ?_)
  obtain ⟨rfl, rfl, rfl, rfl, rfl⟩ := hp1
  refine z_if_eq 36 dX4_mayBe_4 (by decide) (bI_rng _) (fun c_4 => ?_) (fun c_4 => ?_)
  · have c_4 := bI_0 c_4
    refine z_iconst dX4_mayBe_36 ?_
    refine y_zreturn dX4_mayBe_37 rfl (by decide) ?_
    first | (rw [bI_t ⟨c_4, c_11, by simp only [Int.toNat_natCast]; omega⟩]; exact yR_rfl) | (rw [bI_f (fun h => c_4 h.1)]; exact yR_rfl) | (rw [bI_f (fun h => c_11 h.2.1)]; exact yR_rfl) | (rw [bI_f (fun h => by have h2 := h.2.2; simp only [Int.toNat_natCast] at h2; omega)]; exact yR_rfl)
  · have c_4 := bI_1 c_4
    refine z_iload_n dX4_mayBe_7 rfl ?_
    refine y_callS dX4_mayBe_8 kX4_43 (c_X4_isWeek hf) rfl rfl (Nat.le_of_ble_eq_true rfl) ⟨⟨by decide, by decide⟩, by decide, by decide⟩ (fun v8 n8 sh8 I8 P8 hp8 => ?_)
    obtain ⟨rfl, rfl, rfl, rfl, rfl⟩ := hp8
    refine z_if_eq 36 dX4_mayBe_11 (by decide) (bI_rng _) (fun c_11 => ?_) (fun c_11 => ?_)
    · have c_11 := bI_0 c_11
      refine z_iconst dX4_mayBe_36 ?_
      refine y_zreturn dX4_mayBe_37 rfl (by decide) ?_
      first | (rw [bI_t ⟨c_4, c_11, by simp only [Int.toNat_natCast]; omega⟩]; exact yR_rfl) | (rw [bI_f (fun h => c_4 h.1)]; exact yR_rfl) | (rw [bI_f (fun h => c_11 h.2.1)]; exact yR_rfl) | (rw [bI_f (fun h => by have h2 := h.2.2; simp only [Int.toNat_natCast] at h2; omega)]; exact yR_rfl)
    · have c_11 := bI_1 c_11
      obtain ⟨k0, rfl⟩ : ∃ k0 : Nat, k = k0 := ⟨k.toNat, by omega⟩
      have hz := zsf_le (k := k0) (by omega)
      have hz2 : zsf 0 k0 ≤ 400 ∧ 0 ≤ zsf 1 k0 := by
        rcases (show k0 = 0 ∨ k0 = 1 ∨ k0 = 2 ∨ k0 = 3 ∨ k0 = 4 ∨ k0 = 5 ∨ k0 = 6 by omega) with rfl | rfl | rfl | rfl | rfl | rfl | rfl <;> exact ⟨by decide, by decide⟩
      refine z_iload_n dX4_mayBe_14 rfl ?_
      refine z_gets 0 dX4_mayBe_15 (by decide) sX4_46 ?_
      refine z_iload_n dX4_mayBe_18 rfl ?_
      refine z_sld 0 dX4_mayBe_19 (by decide) (by show 0 ≤ (k0 : Int) ∧ (k0 : Int) < ((7 : Nat) : Int); omega) (by omega) ?_
      refine z_topi (iI (zsf 0 k0)) rfl ?_
      refine z_icmp_lt 36 dX4_mayBe_20 (by decide) (by omega) (by omega) (fun c_20 => ?_) (fun c_20 => ?_)
      · refine z_iconst dX4_mayBe_36 ?_
        refine y_zreturn dX4_mayBe_37 rfl (by decide) ?_
        first | (rw [bI_t ⟨c_4, c_11, by simp only [Int.toNat_natCast]; omega⟩]; exact yR_rfl) | (rw [bI_f (fun h => c_4 h.1)]; exact yR_rfl) | (rw [bI_f (fun h => c_11 h.2.1)]; exact yR_rfl) | (rw [bI_f (fun h => by have h2 := h.2.2; simp only [Int.toNat_natCast] at h2; omega)]; exact yR_rfl)
      · refine z_iload_n dX4_mayBe_23 rfl ?_
        refine z_gets 1 dX4_mayBe_24 (by decide) sX4_49 ?_
        refine z_iload_n dX4_mayBe_27 rfl ?_
        refine z_sld 1 dX4_mayBe_28 (by decide) (by show 0 ≤ (k0 : Int) ∧ (k0 : Int) < ((7 : Nat) : Int); omega) (by omega) ?_
        refine z_topi (iI (zsf 1 k0)) rfl ?_
        refine z_icmp_gt 36 dX4_mayBe_29 (by decide) (by omega) (by omega) (fun c_29 => ?_) (fun c_29 => ?_)
        · refine z_iconst dX4_mayBe_36 ?_
          refine y_zreturn dX4_mayBe_37 rfl (by decide) ?_
          first | (rw [bI_t ⟨c_4, c_11, by simp only [Int.toNat_natCast]; omega⟩]; exact yR_rfl) | (rw [bI_f (fun h => c_4 h.1)]; exact yR_rfl) | (rw [bI_f (fun h => c_11 h.2.1)]; exact yR_rfl) | (rw [bI_f (fun h => by have h2 := h.2.2; simp only [Int.toNat_natCast] at h2; omega)]; exact yR_rfl)
        · refine z_iconst dX4_mayBe_32 ?_
          refine z_goto 37 dX4_mayBe_33 (by decide) ?_
          refine y_zreturn dX4_mayBe_37 rfl (by decide) ?_
          first | (rw [bI_t ⟨c_4, c_11, by simp only [Int.toNat_natCast]; omega⟩]; exact yR_rfl) | (rw [bI_f (fun h => c_4 h.1)]; exact yR_rfl) | (rw [bI_f (fun h => c_11 h.2.1)]; exact yR_rfl) | (rw [bI_f (fun h => by have h2 := h.2.2; simp only [Int.toNat_natCast] at h2; omega)]; exact yR_rfl)
set_option maxHeartbeats 4000000 in
set_option maxRecDepth 100000 in
theorem c_X4_isFull (hB : yB n sh P) {s : Nat} (hs : I 3 4 = (s : Int)) (hs2 : s ≤ 200) : yC l E jX4_isFull (rm 0 0) [.ref (zb E + 3)] n sh I P (yR (some (.int (iI (bI (200 ≤ s))))) n sh (I) P) := by
  refine yC_of (by decide) (Nat.le_of_ble_eq_true rfl) ?_
  refine z_aload_n dX4_isFull_0 rfl ?_
  refine y_getI dX4_isFull_1 fX4_52 (hB.lt (by decide)) (hB.2.1 3 (by decide)) rfl ?_
  refine z_sipush dX4_isFull_4 rfl ?_
  refine z_icmp_lt 14 dX4_isFull_7 (by decide) (by omega) (by omega) (fun c_7 => ?_) (fun c_7 => ?_)
  · refine z_iconst dX4_isFull_14 ?_
    refine y_zreturn dX4_isFull_15 rfl (by decide) ?_
    first | (rw [bI_t (by omega)]; exact yR_rfl) | (rw [bI_f (by omega)]; exact yR_rfl)
  · refine z_iconst dX4_isFull_10 ?_
    refine z_goto 15 dX4_isFull_11 (by decide) ?_
    refine y_zreturn dX4_isFull_15 rfl (by decide) ?_
    first | (rw [bI_t (by omega)]; exact yR_rfl) | (rw [bI_f (by omega)]; exact yR_rfl)
set_option maxHeartbeats 4000000 in
set_option maxRecDepth 100000 in
theorem c_X4_write (hB : yB n sh P) {s : Nat} (hs : I 3 4 = (s : Int)) (hs2 : s ≤ 200) {k f v t : Int} : yC l E jX4_write (rm 0 0) [.ref (zb E + 3), .int (iI k), .int (iI f), .int (iI v), .int (iI t)] n sh I P (yR (none) n sh (bWr I s k f v t) P) := by
  refine yC_of (by decide) (Nat.le_of_ble_eq_true rfl) ?_
  refine z_aload_n dX4_write_0 rfl ?_
  refine y_getR dX4_write_1 fX4_11 (hB.lt (by decide)) (hB.2.1 3 (by decide)) rfl (hB.2.2.2.1 0) ?_
  refine z_aload_n dX4_write_4 rfl ?_
  refine y_getI dX4_write_5 fX4_52 (hB.lt (by decide)) (hB.2.1 3 (by decide)) rfl ?_
  refine z_top ((s : Int)) (by simp [zup, *]) ?_
  refine z_iload_n dX4_write_8 rfl ?_
  refine y_iastoreJ (s) dX4_write_9 (hB.lt (by decide)) (hB.2.1 4 (by decide)) (by omega) (by decide) ?_
  refine z_aload_n dX4_write_10 rfl ?_
  refine y_getR dX4_write_11 fX4_15 (hB.lt (by decide)) (hB.2.1 3 (by decide)) rfl (hB.2.2.2.1 1) ?_
  refine z_aload_n dX4_write_14 rfl ?_
  refine y_getI dX4_write_15 fX4_52 (hB.lt (by decide)) (hB.2.1 3 (by decide)) rfl ?_
  refine z_top ((s : Int)) (by simp [zup, *]) ?_
  refine z_iload_n dX4_write_18 rfl ?_
  refine y_iastoreJ (s) dX4_write_19 (hB.lt (by decide)) (hB.2.1 5 (by decide)) (by omega) (by decide) ?_
  refine z_aload_n dX4_write_20 rfl ?_
  refine y_getR dX4_write_21 fX4_18 (hB.lt (by decide)) (hB.2.1 3 (by decide)) rfl (hB.2.2.2.1 2) ?_
  refine z_aload_n dX4_write_24 rfl ?_
  refine y_getI dX4_write_25 fX4_52 (hB.lt (by decide)) (hB.2.1 3 (by decide)) rfl ?_
  refine z_top ((s : Int)) (by simp [zup, *]) ?_
  refine z_iload_n dX4_write_28 rfl ?_
  refine y_iastoreJ (s) dX4_write_29 (hB.lt (by decide)) (hB.2.1 6 (by decide)) (by omega) (by decide) ?_
  refine z_aload_n dX4_write_30 rfl ?_
  refine y_getR dX4_write_31 fX4_21 (hB.lt (by decide)) (hB.2.1 3 (by decide)) rfl (hB.2.2.2.1 3) ?_
  refine z_aload_n dX4_write_34 rfl ?_
  refine y_getI dX4_write_35 fX4_52 (hB.lt (by decide)) (hB.2.1 3 (by decide)) rfl ?_
  refine z_top ((s : Int)) (by simp [zup, *]) ?_
  refine z_iload dX4_write_38 rfl ?_
  refine y_iastoreJ (s) dX4_write_40 (hB.lt (by decide)) (hB.2.1 7 (by decide)) (by omega) (by decide) ?_
  exact y_return dX4_write_41 rfl (yR_rfl)
set_option maxHeartbeats 4000000 in
set_option maxRecDepth 100000 in
theorem c_X4_add (hB : yB n sh P) {s : Nat} (hs : I 3 4 = (s : Int)) (hs2 : s ≤ 200) {k f v t : Int} : yC l E jX4_add (rm 1 24) [.ref (zb E + 3), .int (iI k), .int (iI f), .int (iI v), .int (iI t)] n sh I P (yR (none) n sh (zup (bWr I s k f v t) 3 4 ((s : Int) + 1)) P) := by
  refine yC_of (by decide) (Nat.le_of_ble_eq_true rfl) ?_
  refine z_aload_n dX4_add_0 rfl ?_
  refine z_iload_n dX4_add_1 rfl ?_
  refine z_iload_n dX4_add_2 rfl ?_
  refine z_iload_n dX4_add_3 rfl ?_
  refine z_iload dX4_add_4 rfl ?_
  refine y_callV dX4_add_6 kX4_55 (c_X4_write hB hs hs2) (hB.lt (by decide)) (hB.2.1 3 (by decide)) rfl rfl rfl (Nat.le_of_ble_eq_true rfl) ⟨⟨by decide, by decide⟩, by decide, by decide⟩ (fun v6 n6 sh6 I6 P6 hp6 => ?_)
  obtain ⟨rfl, rfl, rfl, rfl, rfl⟩ := hp6
  refine z_aload_n dX4_add_9 rfl ?_
  refine z_dup dX4_add_10 rfl ?_
  refine y_getI dX4_add_11 fX4_52 (hB.lt (by decide)) (hB.2.1 3 (by decide)) rfl ?_
  refine z_top ((s : Int)) (by simp [bWr, zup, *]) ?_
  refine z_iconst dX4_add_14 ?_
  refine z_iadd dX4_add_15 ?_
  refine y_putI dX4_add_16 fX4_52 (hB.lt (by decide)) (hB.2.1 3 (by decide)) rfl ?_
  exact y_return dX4_add_19 rfl (yR_rfl)
set_option maxHeartbeats 4000000 in
set_option maxRecDepth 100000 in
theorem c_X4_forgetSupposed (hB : yB n sh P) : yC l E jX4_forgetSupposed (rm 0 0) [.ref (zb E + 3)] n sh I P (yR (none) n sh (zup I 3 7 (-1)) P) := by
  refine yC_of (by decide) (Nat.le_of_ble_eq_true rfl) ?_
  refine z_aload_n dX4_forgetSupposed_0 rfl ?_
  refine z_iconst dX4_forgetSupposed_1 ?_
  refine y_putI dX4_forgetSupposed_2 fX4_32 (hB.lt (by decide)) (hB.2.1 3 (by decide)) rfl ?_
  exact y_return dX4_forgetSupposed_5 rfl (yR_rfl)
set_option maxHeartbeats 4000000 in
set_option maxRecDepth 100000 in
theorem l_X4_knownIn (hB : yB n sh P) {s : Nat} (hs : I 3 4 = (s : Int)) (hs2 : s ≤ 200) (hR : ∀ i, i < s → 0 ≤ I 7 i ∧ I 7 i ≤ 300) {q : Int} (hq : (-2147483648 ≤ q ∧ q ≤ 2147483647)) : ∀ c : Nat, c ≤ s → sKn (I 7) q c = sKn (I 7) q s → Z l E jX4_knownIn (rm 0 0) (yE E 0 0 (yR (some (.int (iI (sKn (I 7) q s)))) n sh I P)) 0 0 (zw E n sh I P) 5 [(0, .ref (zb E + 3)), (1, .int (iI q)), (2, .int (iI (c : Nat)))] [] := by
  refine zloop (fun c : Nat => c) (fun c ih hc0 hc => ?_)
  refine z_iload_n dX4_knownIn_5 rfl ?_
  refine z_if_le 27 dX4_knownIn_6 (by decide) (by omega) (fun c_6 => ?_) (fun c_6 => ?_)
  · refine z_iload_n dX4_knownIn_27 rfl ?_
    refine y_ireturn dX4_knownIn_28 rfl ?_
    rw [← hc]
    first | (rw [show c = 0 by omega]; exact yR_rfl) | (unfold sKn; rw [if_neg (by omega)]; exact yR_rfl)
  · obtain ⟨j, rfl⟩ : ∃ j, c = j + 1 := ⟨c - 1, by omega⟩
    have hr := hR j (by omega)
    refine z_aload_n dX4_knownIn_9 rfl ?_
    refine y_getR dX4_knownIn_10 fX4_21 (hB.lt (by decide)) (hB.2.1 3 (by decide)) rfl (hB.2.2.2.1 3) ?_
    refine z_iload_n dX4_knownIn_13 rfl ?_
    refine z_iconst dX4_knownIn_14 ?_
    refine z_isub dX4_knownIn_15 ?_
    refine y_ialoadJ (j) dX4_knownIn_16 (hB.lt (by decide)) (hB.2.1 7 (by decide)) (by omega) (by decide) ?_
    refine z_iload_n dX4_knownIn_17 rfl ?_
    refine z_icmp_le 27 dX4_knownIn_18 (by decide) (by omega) (by omega) (fun c_18 => ?_) (fun c_18 => ?_)
    · refine z_iload_n dX4_knownIn_27 rfl ?_
      refine y_ireturn dX4_knownIn_28 rfl ?_
      rw [← hc]
      first | (rw [show c = 0 by omega]; exact yR_rfl) | (unfold sKn; rw [if_neg (by omega)]; exact yR_rfl)
    · refine z_iinc dX4_knownIn_21 rfl (by decide) ?_
      refine z_goto 5 dX4_knownIn_24 (by decide) ?_
      refine z_keys [0, 1, 2] ?_
      have h5 := ih j (by omega) (by omega) (by rw [← hc, sKn_succ, if_pos (by omega)])
      rw [show (((j + 1 : Nat) : Int) + -1) = (j : Int) by omega]
      exact h5
set_option maxHeartbeats 4000000 in
set_option maxRecDepth 100000 in
theorem c_X4_knownIn (hB : yB n sh P) {s : Nat} (hs : I 3 4 = (s : Int)) (hs2 : s ≤ 200) (hR : ∀ i, i < s → 0 ≤ I 7 i ∧ I 7 i ≤ 300) {q : Int} (hq : (-2147483648 ≤ q ∧ q ≤ 2147483647)) : yC l E jX4_knownIn (rm 0 0) [.ref (zb E + 3), .int (iI q)] n sh I P (yR (some (.int (iI (sKn (I 7) q s)))) n sh (I) P) := by
  refine yC_of (by decide) (Nat.le_of_ble_eq_true rfl) ?_
  refine z_aload_n dX4_knownIn_0 rfl ?_
  refine y_getI dX4_knownIn_1 fX4_52 (hB.lt (by decide)) (hB.2.1 3 (by decide)) rfl ?_
  refine z_top ((s : Int)) (hs) ?_
  refine z_istore_n dX4_knownIn_4 (by decide) ?_
  refine z_keys [0, 1, 2] ?_
  exact l_X4_knownIn hB hs hs2 hR hq s (by omega) rfl
set_option maxHeartbeats 4000000 in
set_option maxRecDepth 100000 in
theorem l_X4_inForce (hB : yB n sh P) {s : Nat} (hs : I 3 4 = (s : Int)) (hs2 : s ≤ 200) (hR : yRl I 4 s) {k : Nat} (hk : k < 7) {w q : Int} (hw : (-2147483648 ≤ w ∧ w ≤ 2147483647)) (hq : (-2147483648 ≤ q ∧ q ≤ 2147483647)) : ∀ i : Nat, i ≤ (sKn (I 7) q s) → Z l E jX4_inForce (rm 1 22) (yE E 0 0 (yR (some (.int (iI (sGI I k w (sKn (I 7) q s)).2))) n sh I P)) 0 0 (zw E n sh I P) 20 [(0, .ref (zb E + 3)), (1, .int (iI k)), (2, .int (iI w)), (3, .int (iI q)), (4, .int (iI (sKn (I 7) q s))), (5, .int (iI (sGI I k w i).2)), (6, .int (iI (sGI I k w i).1)), (7, .int (iI i))] [] := by
  have hcl := sKn_le (I 7) q s
  refine zloop (fun i : Nat => (sKn (I 7) q s) - i) (fun i ih hi0 => ?_)
  refine z_iload dX4_inForce_20 rfl ?_
  refine z_iload dX4_inForce_22 rfl ?_
  refine z_icmp_ge 85 dX4_inForce_24 (by decide) (by omega) (by omega) (fun c_24 => ?_) (fun c_24 => ?_)
  · have ei : i = (sKn (I 7) q s) := by omega
    rw [ei]
    refine z_iload dX4_inForce_85 rfl ?_
    exact y_ireturn dX4_inForce_87 rfl (yR_rfl)
  · have hr : (0 ≤ I 4 i ∧ I 4 i ≤ 6) ∧ (0 ≤ I 5 i ∧ I 5 i ≤ 1000) ∧ (0 ≤ I 6 i ∧ I 6 i ≤ 400) ∧ (0 ≤ I 7 i ∧ I 7 i ≤ 300) := hR i (by omega)
    have hf := (sGI_rng (I := I) hk (w := w) (r := i) (fun a ha => hR a (by omega))).1
    refine z_aload_n dX4_inForce_27 rfl ?_
    refine y_getR dX4_inForce_28 fX4_11 (hB.lt (by decide)) (hB.2.1 3 (by decide)) rfl (hB.2.2.2.1 0) ?_
    refine z_iload dX4_inForce_31 rfl ?_
    refine y_ialoadJ (i) dX4_inForce_33 (hB.lt (by decide)) (hB.2.1 4 (by decide)) (by omega) (by decide) ?_
    refine z_iload_n dX4_inForce_34 rfl ?_
    refine z_icmp_ne 79 dX4_inForce_35 (by decide) (by omega) (by omega) (fun c_35 => ?_) (fun c_35 => ?_)
    · refine z_iinc dX4_inForce_79 rfl (by decide) ?_
      refine z_goto 20 dX4_inForce_82 (by decide) ?_
      refine z_keys [0, 1, 2, 3, 4, 5, 6, 7] ?_
      have h5 := ih (i + 1) (by omega) (by omega)
      rw [sGI_succ] at h5
      first | rw [if_pos (by omega)] at h5 | rw [if_neg (by omega)] at h5
      exact h5
    · refine z_aload_n dX4_inForce_38 rfl ?_
      refine y_getR dX4_inForce_39 fX4_15 (hB.lt (by decide)) (hB.2.1 3 (by decide)) rfl (hB.2.2.2.1 1) ?_
      refine z_iload dX4_inForce_42 rfl ?_
      refine y_ialoadJ (i) dX4_inForce_44 (hB.lt (by decide)) (hB.2.1 5 (by decide)) (by omega) (by decide) ?_
      refine z_iload_n dX4_inForce_45 rfl ?_
      refine z_icmp_gt 79 dX4_inForce_46 (by decide) (by omega) (by omega) (fun c_46 => ?_) (fun c_46 => ?_)
      · refine z_iinc dX4_inForce_79 rfl (by decide) ?_
        refine z_goto 20 dX4_inForce_82 (by decide) ?_
        refine z_keys [0, 1, 2, 3, 4, 5, 6, 7] ?_
        have h5 := ih (i + 1) (by omega) (by omega)
        rw [sGI_succ] at h5
        first | rw [if_pos (by omega)] at h5 | rw [if_neg (by omega)] at h5
        exact h5
      · refine z_aload_n dX4_inForce_49 rfl ?_
        refine y_getR dX4_inForce_50 fX4_15 (hB.lt (by decide)) (hB.2.1 3 (by decide)) rfl (hB.2.2.2.1 1) ?_
        refine z_iload dX4_inForce_53 rfl ?_
        refine y_ialoadJ (i) dX4_inForce_55 (hB.lt (by decide)) (hB.2.1 5 (by decide)) (by omega) (by decide) ?_
        refine z_iload dX4_inForce_56 rfl ?_
        refine z_icmp_lt 79 dX4_inForce_58 (by decide) (by omega) (by omega) (fun c_58 => ?_) (fun c_58 => ?_)
        · refine z_iinc dX4_inForce_79 rfl (by decide) ?_
          refine z_goto 20 dX4_inForce_82 (by decide) ?_
          refine z_keys [0, 1, 2, 3, 4, 5, 6, 7] ?_
          have h5 := ih (i + 1) (by omega) (by omega)
          rw [sGI_succ] at h5
          first | rw [if_pos (by omega)] at h5 | rw [if_neg (by omega)] at h5
          exact h5
        · refine z_aload_n dX4_inForce_61 rfl ?_
          refine y_getR dX4_inForce_62 fX4_15 (hB.lt (by decide)) (hB.2.1 3 (by decide)) rfl (hB.2.2.2.1 1) ?_
          refine z_iload dX4_inForce_65 rfl ?_
          refine y_ialoadJ (i) dX4_inForce_67 (hB.lt (by decide)) (hB.2.1 5 (by decide)) (by omega) (by decide) ?_
          refine z_istore dX4_inForce_68 (by decide) ?_
          refine z_aload_n dX4_inForce_70 rfl ?_
          refine y_getR dX4_inForce_71 fX4_18 (hB.lt (by decide)) (hB.2.1 3 (by decide)) rfl (hB.2.2.2.1 2) ?_
          refine z_iload dX4_inForce_74 rfl ?_
          refine y_ialoadJ (i) dX4_inForce_76 (hB.lt (by decide)) (hB.2.1 6 (by decide)) (by omega) (by decide) ?_
          refine z_istore dX4_inForce_77 (by decide) ?_
          refine z_iinc dX4_inForce_79 rfl (by decide) ?_
          refine z_goto 20 dX4_inForce_82 (by decide) ?_
          refine z_keys [0, 1, 2, 3, 4, 5, 6, 7] ?_
          have h5 := ih (i + 1) (by omega) (by omega)
          rw [sGI_succ] at h5
          first | rw [if_pos (by omega)] at h5 | rw [if_neg (by omega)] at h5
          exact h5
set_option maxHeartbeats 4000000 in
set_option maxRecDepth 100000 in
theorem c_X4_inForce (hB : yB n sh P) {s : Nat} (hs : I 3 4 = (s : Int)) (hs2 : s ≤ 200) (hR : yRl I 4 s) {k : Nat} (hk : k < 7) {w q : Int} (hw : (-2147483648 ≤ w ∧ w ≤ 2147483647)) (hq : (-2147483648 ≤ q ∧ q ≤ 2147483647)) : yC l E jX4_inForce (rm 1 22) [.ref (zb E + 3), .int (iI k), .int (iI w), .int (iI q)] n sh I P (yR (some (.int (iI (sGI I k w (sKn (I 7) q s)).2))) n sh (I) P) := by
  refine yC_of (by decide) (Nat.le_of_ble_eq_true rfl) ?_
  refine z_aload_n dX4_inForce_0 rfl ?_
  refine z_iload_n dX4_inForce_1 rfl ?_
  refine y_callV dX4_inForce_2 kX4_59 (c_X4_knownIn hB hs hs2 (fun i hi => (hR i hi).2.2.2) hq) (hB.lt (by decide)) (hB.2.1 3 (by decide)) rfl rfl rfl (Nat.le_of_ble_eq_true rfl) ⟨⟨by decide, by decide⟩, by decide, by decide⟩ (fun v2 n2 sh2 I2 P2 hp2 => ?_)
  obtain ⟨rfl, rfl, rfl, rfl, rfl⟩ := hp2
  refine z_istore dX4_inForce_5 (by decide) ?_
  refine z_gets 2 dX4_inForce_7 (by decide) sX4_63 ?_
  refine z_iload_n dX4_inForce_10 rfl ?_
  refine z_sld 2 dX4_inForce_11 (by decide) (by show 0 ≤ (k : Int) ∧ (k : Int) < ((7 : Nat) : Int); omega) (by omega) ?_
  refine z_topi (iI (af k)) rfl ?_
  refine z_istore dX4_inForce_12 (by decide) ?_
  refine z_iconst dX4_inForce_14 ?_
  refine z_istore dX4_inForce_15 (by decide) ?_
  refine z_iconst dX4_inForce_17 ?_
  refine z_istore dX4_inForce_18 (by decide) ?_
  refine z_keys [0, 1, 2, 3, 4, 5, 6, 7] ?_
  exact l_X4_inForce hB hs hs2 hR hk hw hq 0 (by omega)
set_option maxHeartbeats 4000000 in
set_option maxRecDepth 100000 in
theorem l_X4_handOn {a T : Nat} {v : Int} (ha : a < n) (hsa : sh a = (1, 301)) (hT : T ≤ 300) (hv : -1 ≤ v ∧ v ≤ 400) (hr : ∀ w, w ≤ T → -1 ≤ I a w ∧ I a w ≤ 400) : ∀ w : Nat, ∀ I' : Nat → Nat → Int, ((∀ x b, (x ≠ a ∨ T < b ∨ w ≤ b) → I' x b = I x b) ∧ (∀ w', w' < w → I' a w' = hO (I a) v w')) → w ≤ T + 1 → Z l E jX4_handOn (rm 0 0) (yE E 0 0 (yS none n sh P (fun I' => (∀ x b, (x ≠ a ∨ T < b) → I' x b = I x b) ∧ ∀ w, w ≤ T → I' a w = hO (I a) v w))) 0 0 (zw E n sh I' P) 5 [(0, .ref (zb E + a)), (1, .int (iI v)), (2, .int (iI T)), (3, .int (iI (hQ (I a) v w))), (4, .int (iI w))] [] := by
  refine zloop (fun w : Nat => T + 1 - w) (fun w ih I' hI hw0 => ?_)
  refine z_iload dX4_handOn_5 rfl ?_
  refine z_iload_n dX4_handOn_7 rfl ?_
  refine z_icmp_gt 38 dX4_handOn_8 (by decide) (by omega) (by omega) (fun c_8 => ?_) (fun c_8 => ?_)
  · exact y_return dX4_handOn_38 rfl (⟨rfl, rfl, rfl, rfl, fun x b hx => hI.1 x b (by omega), fun w' hw' => hI.2 w' (by omega)⟩)
  · have e1 : I' a w = I a w := hI.1 a w (by omega)
    have hrw := hr w (by omega)
    have eh := hO_eq (I a) v w
    refine z_aload_n dX4_handOn_11 rfl ?_
    refine z_iload dX4_handOn_12 rfl ?_
    refine y_ialoadJ (w) dX4_handOn_14 ha hsa (by omega) (by decide) ?_
    rw [e1]
    refine z_iconst dX4_handOn_15 ?_
    refine z_icmp_ne 27 dX4_handOn_16 (by decide) (by omega) (by omega) (fun c_16 => ?_) (fun c_16 => ?_)
    · rw [if_neg c_16] at eh
      refine z_aload_n dX4_handOn_27 rfl ?_
      refine z_iload dX4_handOn_28 rfl ?_
      refine y_ialoadJ (w) dX4_handOn_30 ha hsa (by omega) (by decide) ?_
      rw [e1]
      refine z_istore_n dX4_handOn_31 (by decide) ?_
      refine z_iinc dX4_handOn_32 rfl (by decide) ?_
      refine z_goto 5 dX4_handOn_35 (by decide) ?_
      refine z_keys [0, 1, 2, 3, 4] ?_
      have h5 := ih (w + 1) (by omega) I' ⟨fun x b hx => hI.1 x b (by omega), fun w' hw' => ?_⟩ (by omega)
      · rw [show hQ (I a) v (w + 1) = hO (I a) v w from rfl, eh] at h5; exact h5
      · by_cases ew : w' = w
        · subst ew; rw [e1, eh]
        · exact hI.2 w' (by omega)
    · rw [if_pos c_16] at eh
      refine z_aload_n dX4_handOn_19 rfl ?_
      refine z_iload dX4_handOn_20 rfl ?_
      refine z_iload_n dX4_handOn_22 rfl ?_
      refine y_iastoreJ (w) dX4_handOn_23 ha hsa (by omega) (by decide) ?_
      refine z_goto 32 dX4_handOn_24 (by decide) ?_
      refine z_iinc dX4_handOn_32 rfl (by decide) ?_
      refine z_goto 5 dX4_handOn_35 (by decide) ?_
      refine z_keys [0, 1, 2, 3, 4] ?_
      have h5 := ih (w + 1) (by omega) (zup I' a w (hQ (I a) v w)) ⟨fun x b hx => ?_, fun w' hw' => ?_⟩ (by omega)
      · rw [show hQ (I a) v (w + 1) = hO (I a) v w from rfl, eh] at h5; exact h5
      · by_cases ex : x = a
        · subst ex; rw [zup_eq]; simp only [zu, show ¬ b = w by omega, if_false]; exact hI.1 x b (by omega)
        · rw [zup_ne ex]; exact hI.1 x b (by omega)
      · rw [zup_eq]
        by_cases ew : w' = w
        · subst ew; simp only [zu, if_true]; exact eh.symm
        · simp only [zu, ew, if_false]; exact hI.2 w' (by omega)
set_option maxHeartbeats 4000000 in
set_option maxRecDepth 100000 in
theorem c_X4_handOn {a T : Nat} {v : Int} (ha : a < n) (hsa : sh a = (1, 301)) (hT : T ≤ 300) (hv : -1 ≤ v ∧ v ≤ 400) (hr : ∀ w, w ≤ T → -1 ≤ I a w ∧ I a w ≤ 400) : yC l E jX4_handOn (rm 0 0) [.ref (zb E + a), .int (iI v), .int (iI T)] n sh I P (yS none n sh P (fun I' => (∀ x b, (x ≠ a ∨ T < b) → I' x b = I x b) ∧ ∀ w, w ≤ T → I' a w = hO (I a) v w)) := by
  refine yC_of (by decide) (Nat.le_of_ble_eq_true rfl) ?_
  refine z_iload_n dX4_handOn_0 rfl ?_
  refine z_istore_n dX4_handOn_1 (by decide) ?_
  refine z_iconst dX4_handOn_2 ?_
  refine z_istore dX4_handOn_3 (by decide) ?_
  refine z_keys [0, 1, 2, 3, 4] ?_
  exact l_X4_handOn ha hsa hT hv hr 0 I ⟨fun _ _ _ => rfl, fun w' hw' => by omega⟩ (by omega)
end BR
