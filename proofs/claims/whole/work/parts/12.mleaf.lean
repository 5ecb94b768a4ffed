section ML
variable {l : Launch} {E : zEnv} {n : Nat} {sh : Nat → Nat × Nat} {I : Nat → Nat → Int} {P : Nat → Nat → Option Nat}
set_option maxHeartbeats 4000000 in
set_option maxRecDepth 100000 in
theorem c_X7_in {v lo hi : Int} (hv : -2147483648 ≤ v ∧ v ≤ 2147483647) (hlo : -2147483648 ≤ lo ∧ lo ≤ 2147483647) (hhi : -2147483648 ≤ hi ∧ hi ≤ 2147483647) : yC l E jX7_in (rm 0 0) [.int (iI v), .int (iI lo), .int (iI hi)] n sh I P (yR (some (.int (iI (bI (lo ≤ v ∧ v ≤ hi))))) n sh (I) P) := by
  refine yC_of (by decide) (Nat.le_of_ble_eq_true rfl) ?_
  refine z_iload_n dX7_in_0 rfl ?_
  refine z_iload_n dX7_in_1 rfl ?_
  refine z_icmp_lt 14 dX7_in_2 (by decide) (by omega) (by omega) (fun c_2 => ?_) (fun c_2 => ?_)
  · refine z_iconst dX7_in_14 ?_
    refine y_zreturn dX7_in_15 rfl (by decide) ?_
    first | (rw [bI_t (by omega)]; exact yR_rfl) | (rw [bI_f (by omega)]; exact yR_rfl)
  · refine z_iload_n dX7_in_5 rfl ?_
    refine z_iload_n dX7_in_6 rfl ?_
    refine z_icmp_gt 14 dX7_in_7 (by decide) (by omega) (by omega) (fun c_7 => ?_) (fun c_7 => ?_)
    · refine z_iconst dX7_in_14 ?_
      refine y_zreturn dX7_in_15 rfl (by decide) ?_
      first | (rw [bI_t (by omega)]; exact yR_rfl) | (rw [bI_f (by omega)]; exact yR_rfl)
    · refine z_iconst dX7_in_10 ?_
      refine z_goto 15 dX7_in_11 (by decide) ?_
      refine y_zreturn dX7_in_15 rfl (by decide) ?_
      first | (rw [bI_t (by omega)]; exact yR_rfl) | (rw [bI_f (by omega)]; exact yR_rfl)
set_option maxHeartbeats 4000000 in
set_option maxRecDepth 100000 in
theorem c_X7_isMember (hM : yM n sh P) {m : Int} (hm : -2147483648 ≤ m ∧ m ≤ 2147483647) (hmm : 0 ≤ I 24 1 ∧ I 24 1 ≤ 40) : yC l E jX7_isMember (rm 1 22) [.ref (zb E + 24), .int (iI m)] n sh I P (yR (some (.int (iI (bI (0 ≤ m ∧ m < I 24 1))))) n sh (I) P) := by
  refine yC_of (by decide) (Nat.le_of_ble_eq_true rfl) ?_
  refine z_iload_n dX7_isMember_0 rfl ?_
  refine z_iconst dX7_isMember_1 ?_
  refine z_aload_n dX7_isMember_2 rfl ?_
  refine y_getI dX7_isMember_3 fX7_92 (hM.lt (by decide)) (hM.2.1 24 (by decide)) rfl ?_
  refine z_iconst dX7_isMember_6 ?_
  refine z_isub dX7_isMember_7 ?_
  refine y_callS dX7_isMember_8 kX7_96 (c_X7_in (by omega) (by omega) (by omega)) rfl rfl (Nat.le_of_ble_eq_true rfl) ⟨⟨by decide, by decide⟩, by decide, by decide⟩ (fun v8 n8 sh8 I8 P8 hp8 => ?_)
  obtain ⟨rfl, rfl, rfl, rfl, rfl⟩ := hp8
  refine y_zreturn dX7_isMember_11 rfl (bI_or _) ?_
  by_cases h : 0 ≤ m ∧ m < I 24 1
  · rw [bI_t h, bI_t (by omega)]; exact yR_rfl
  · rw [bI_f h, bI_f (by omega)]; exact yR_rfl
set_option maxHeartbeats 4000000 in
set_option maxRecDepth 100000 in
theorem c_X7_isWeek (hM : yM n sh P) {w : Int} (hw : -2147483648 ≤ w ∧ w ≤ 2147483647) (hnw : 0 ≤ I 24 0 ∧ I 24 0 ≤ 300) : yC l E jX7_isWeek (rm 1 22) [.ref (zb E + 24), .int (iI w)] n sh I P (yR (some (.int (iI (bI (0 ≤ w ∧ w ≤ I 24 0))))) n sh (I) P) := by
  refine yC_of (by decide) (Nat.le_of_ble_eq_true rfl) ?_
  refine z_iload_n dX7_isWeek_0 rfl ?_
  refine z_iconst dX7_isWeek_1 ?_
  refine z_aload_n dX7_isWeek_2 rfl ?_
  refine y_getI dX7_isWeek_3 fX7_100 (hM.lt (by decide)) (hM.2.1 24 (by decide)) rfl ?_
  refine y_callS dX7_isWeek_6 kX7_96 (c_X7_in (by omega) (by omega) (by omega)) rfl rfl (Nat.le_of_ble_eq_true rfl) ⟨⟨by decide, by decide⟩, by decide, by decide⟩ (fun v6 n6 sh6 I6 P6 hp6 => ?_)
  obtain ⟨rfl, rfl, rfl, rfl, rfl⟩ := hp6
  exact y_zreturn dX7_isWeek_9 rfl (bI_or _) (yR_rfl)
set_option maxHeartbeats 4000000 in
set_option maxRecDepth 100000 in
theorem c_X7_value (hM : yM n sh P) {k w : Nat} (hk : k < 7) (hw : w < 301) : yC l E jX7_value (rm 0 0) [.ref (zb E + 24), .int (iI k), .int (iI w)] n sh I P (yR (some (.int (iI (I 45 (301 * k + w))))) n sh (I) P) := by
  refine yC_of (by decide) (Nat.le_of_ble_eq_true rfl) ?_
  refine z_aload_n dX7_value_0 rfl ?_
  refine y_getR dX7_value_1 fX7_70 (hM.lt (by decide)) (hM.2.1 24 (by decide)) rfl (hM.2.2 25) ?_
  refine z_sipush dX7_value_4 rfl ?_
  refine z_iload_n dX7_value_7 rfl ?_
  refine z_imul dX7_value_8 ?_
  refine z_iload_n dX7_value_9 rfl ?_
  refine z_iadd dX7_value_10 ?_
  refine y_ialoadJ (301 * k + w) dX7_value_11 (hM.lt (by decide)) (hM.2.1 45 (by decide)) (by omega) (by decide) ?_
  exact y_ireturn dX7_value_12 rfl (yR_rfl)
set_option maxHeartbeats 4000000 in
set_option maxRecDepth 100000 in
theorem c_X7_livingAt (hM : yM n sh P) {x : Nat} (hx : x < 1000) : yC l E jX7_livingAt (rm 0 0) [.ref (zb E + 24), .int (iI x)] n sh I P (yR (some (.int (iI (if x < 100 then I 43 x else 0)))) n sh (I) P) := by
  refine yC_of (by decide) (Nat.le_of_ble_eq_true rfl) ?_
  refine z_iload_n dX7_livingAt_0 rfl ?_
  refine z_bipush dX7_livingAt_1 rfl ?_
  refine z_icmp_ge 15 dX7_livingAt_3 (by decide) (by omega) (by omega) (fun c_3 => ?_) (fun c_3 => ?_)
  · refine z_iconst dX7_livingAt_15 ?_
    refine y_ireturn dX7_livingAt_16 rfl ?_
    first | (rw [if_pos (by omega)]; exact yR_rfl) | (rw [if_neg (by omega)]; exact yR_rfl)
  · refine z_aload_n dX7_livingAt_6 rfl ?_
    refine y_getR dX7_livingAt_7 fX7_64 (hM.lt (by decide)) (hM.2.1 24 (by decide)) rfl (hM.2.2 23) ?_
    refine z_iload_n dX7_livingAt_10 rfl ?_
    refine y_ialoadJ (x) dX7_livingAt_11 (hM.lt (by decide)) (hM.2.1 43 (by decide)) (by omega) (by decide) ?_
    refine z_goto 16 dX7_livingAt_12 (by decide) ?_
    refine y_ireturn dX7_livingAt_16 rfl ?_
    first | (rw [if_pos (by omega)]; exact yR_rfl) | (rw [if_neg (by omega)]; exact yR_rfl)
set_option maxHeartbeats 4000000 in
set_option maxRecDepth 100000 in
theorem c_X7_sickAt (hM : yM n sh P) {x : Nat} (hx : x < 1000) : yC l E jX7_sickAt (rm 0 0) [.ref (zb E + 24), .int (iI x)] n sh I P (yR (some (.int (iI (if x < 100 then I 44 x else 0)))) n sh (I) P) := by
  refine yC_of (by decide) (Nat.le_of_ble_eq_true rfl) ?_
  refine z_iload_n dX7_sickAt_0 rfl ?_
  refine z_bipush dX7_sickAt_1 rfl ?_
  refine z_icmp_ge 15 dX7_sickAt_3 (by decide) (by omega) (by omega) (fun c_3 => ?_) (fun c_3 => ?_)
  · refine z_iconst dX7_sickAt_15 ?_
    refine y_ireturn dX7_sickAt_16 rfl ?_
    first | (rw [if_pos (by omega)]; exact yR_rfl) | (rw [if_neg (by omega)]; exact yR_rfl)
  · refine z_aload_n dX7_sickAt_6 rfl ?_
    refine y_getR dX7_sickAt_7 fX7_67 (hM.lt (by decide)) (hM.2.1 24 (by decide)) rfl (hM.2.2 24) ?_
    refine z_iload_n dX7_sickAt_10 rfl ?_
    refine y_ialoadJ (x) dX7_sickAt_11 (hM.lt (by decide)) (hM.2.1 44 (by decide)) (by omega) (by decide) ?_
    refine z_goto 16 dX7_sickAt_12 (by decide) ?_
    refine y_ireturn dX7_sickAt_16 rfl ?_
    first | (rw [if_pos (by omega)]; exact yR_rfl) | (rw [if_neg (by omega)]; exact yR_rfl)
end ML
