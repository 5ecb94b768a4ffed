section BRd
variable {l : Launch} {E : zEnv} {n : Nat} {sh : Nat → Nat × Nat} {I : Nat → Nat → Int} {P : Nat → Nat → Option Nat}
set_option maxHeartbeats 4000000 in
set_option maxRecDepth 100000 in
theorem c_X6_force (hB : yB n sh P) {M : Nat → Nat → Int} {t mc rc pc bc c : Nat} {ma pa : Nat → Nat} {Ls : Nat → List Nat} {r rl : Nat} (hO : mOk M t mc rc pc bc c) (hC : cpl n sh I P M t mc rc pc bc ma pa Ls r rl) {k w q : Int} (hk : (-2147483648 ≤ k ∧ k ≤ 2147483647)) (hw : (-2147483648 ≤ w ∧ w ≤ 2147483647)) (hq : (-2147483648 ≤ q ∧ q ≤ 2147483647)) : yC l E jX6_force (rm 2 49) [.ref (zb E + 0), .int (iI k), .int (iI w), .int (iI q)] n sh I P (kP (.int (iI (if ((0 ≤ k ∧ k ≤ 6) ∧ (0 ≤ w ∧ w ≤ 1000) ∧ (0 ≤ q ∧ q ≤ (t : Int))) then (sFI M 29 k.toNat w q rc).2 else -1))) I P M t mc rc pc bc rl) := by
  obtain ⟨hN6, hN7, hN8⟩ := hC.1
  have hb5 := hO.2.1
  refine yC_of (by decide) (Nat.le_of_ble_eq_true rfl) ?_
  refine z_iload_n dX6_force_0 rfl ?_
  refine y_callS dX6_force_1 kX6_138 (c_X4_isKind hk) rfl rfl (Nat.le_of_ble_eq_true rfl) ⟨⟨by decide, by decide⟩, by decide, by decide⟩ (fun v1 n1 sh1 I1 P1 hp1 => ?_)
  obtain ⟨rfl, rfl, rfl, rfl, rfl⟩ := hp1
  refine z_if_eq 22 dX6_force_4 (by decide) (bI_rng _) (fun c_4 => ?_) (fun c_4 => ?_)
  · have c_4 := bI_0 c_4
    refine z_iconst dX6_force_22 ?_
    refine y_ireturn dX6_force_23 rfl ?_
    first | (rw [if_pos (by omega)]; exact kP.same hB hC) | (rw [if_neg (by omega)]; exact kP.same hB hC)
  · have c_4 := bI_1 c_4
    refine z_iload_n dX6_force_7 rfl ?_
    refine y_callS dX6_force_8 kX6_142 (c_X4_isWeek hw) rfl rfl (Nat.le_of_ble_eq_true rfl) ⟨⟨by decide, by decide⟩, by decide, by decide⟩ (fun v8 n8 sh8 I8 P8 hp8 => ?_)
    obtain ⟨rfl, rfl, rfl, rfl, rfl⟩ := hp8
    refine z_if_eq 22 dX6_force_11 (by decide) (bI_rng _) (fun c_11 => ?_) (fun c_11 => ?_)
    · have c_11 := bI_0 c_11
      refine z_iconst dX6_force_22 ?_
      refine y_ireturn dX6_force_23 rfl ?_
      first | (rw [if_pos (by omega)]; exact kP.same hB hC) | (rw [if_neg (by omega)]; exact kP.same hB hC)
    · have c_11 := bI_1 c_11
      refine z_aload_n dX6_force_14 rfl ?_
      refine z_iload_n dX6_force_15 rfl ?_
      refine y_callV dX6_force_16 kX6_145 (c_X6_isPast hB hN8 (by omega) hq) (hB.lt (by decide)) (hB.2.1 0 (by decide)) rfl rfl rfl (Nat.le_of_ble_eq_true rfl) ⟨⟨by decide, by decide⟩, by decide, by decide⟩ (fun v16 n16 sh16 I16 P16 hp16 => ?_)
      obtain ⟨rfl, rfl, rfl, rfl, rfl⟩ := hp16
      refine z_if_ne 24 dX6_force_19 (by decide) (bI_rng _) (fun c_19 => ?_) (fun c_19 => ?_)
      · have c_19 := bI_1 c_19
        obtain ⟨k0, rfl⟩ : ∃ k0 : Nat, k = k0 := ⟨k.toNat, by omega⟩
        simp only [Int.toNat_natCast]
        refine z_aload_n dX6_force_24 rfl ?_
        refine y_getR dX6_force_25 fX6_24 (hB.lt (by decide)) (hB.2.1 0 (by decide)) rfl (hB.2.2.1 2) ?_
        refine z_iload_n dX6_force_28 rfl ?_
        refine z_iload_n dX6_force_29 rfl ?_
        refine z_iload_n dX6_force_30 rfl ?_
        refine y_callV dX6_force_31 kX6_148 (c_X4_inForce hB hC.2.1.1 (by omega) (cpl.Rl hO hC) (by omega) hw hq) (hB.lt (by decide)) (hB.2.1 3 (by decide)) rfl rfl rfl (Nat.le_of_ble_eq_true rfl) ⟨⟨by decide, by decide⟩, by decide, by decide⟩ (fun v31 n31 sh31 I31 P31 hp31 => ?_)
        obtain ⟨rfl, rfl, rfl, rfl, rfl⟩ := hp31
        rw [cpl.fo hO hC]
        refine y_ireturn dX6_force_34 rfl ?_
        first | (rw [if_pos (by omega)]; exact kP.same hB hC) | (rw [if_neg (by omega)]; exact kP.same hB hC)
      · have c_19 := bI_0 c_19
        refine z_iconst dX6_force_22 ?_
        refine y_ireturn dX6_force_23 rfl ?_
        first | (rw [if_pos (by omega)]; exact kP.same hB hC) | (rw [if_neg (by omega)]; exact kP.same hB hC)
set_option maxHeartbeats 4000000 in
set_option maxRecDepth 100000 in
theorem c_X6_booked (hB : yB n sh P) {M : Nat → Nat → Int} {t mc rc pc bc c : Nat} {ma pa : Nat → Nat} {Ls : Nat → List Nat} {r rl : Nat} (hO : mOk M t mc rc pc bc c) (hC : cpl n sh I P M t mc rc pc bc ma pa Ls r rl) {m w : Int} (hm : (-2147483648 ≤ m ∧ m ≤ 2147483647)) (hw : (-2147483648 ≤ w ∧ w ≤ 2147483647)) : yC l E jX6_booked (rm 1 21) [.ref (zb E + 0), .int (iI m), .int (iI w)] n sh I P (kP (.int (iI (if ((0 ≤ m ∧ m < (mc : Int)) ∧ (0 ≤ w ∧ w ≤ 300)) then M 38 (301 * m.toNat + w.toNat) else 0))) I P M t mc rc pc bc rl) := by
  obtain ⟨hN6, hN7, hN8⟩ := hC.1
  have hb5 := hO.2.1
  by_cases hm0 : 0 ≤ m ∧ m < (mc : Int)
  · obtain ⟨m0, rfl⟩ : ∃ m0 : Nat, m = m0 := ⟨m.toNat, by omega⟩
    have hm1 : m0 < mc := by omega
    obtain ⟨hx, hMe⟩ := hC.2.2.2.1 m0 hm1
    have hMb := hMe.1
    simp only [Int.toNat_natCast]
    refine yC_of (by decide) (Nat.le_of_ble_eq_true rfl) ?_
    refine z_aload_n dX6_booked_0 rfl ?_
    refine z_iload_n dX6_booked_1 rfl ?_
    refine y_callV dX6_booked_2 kX6_61 (c_X6_memberAt hB hN6 (by omega) hm1 hx) (hB.lt (by decide)) (hB.2.1 0 (by decide)) rfl rfl rfl (Nat.le_of_ble_eq_true rfl) ⟨⟨by decide, by decide⟩, by decide, by decide⟩ (fun v2 n2 sh2 I2 P2 hp2 => ?_)
    obtain ⟨rfl, rfl, rfl, rfl, rfl⟩ := hp2
    refine z_astore_n dX6_booked_5 (by decide) ?_
    refine z_aload_n dX6_booked_6 rfl ?_
    refine z_ifnull dX6_booked_7 ?_
    refine z_aload_n dX6_booked_10 rfl ?_
    refine z_iload_n dX6_booked_11 rfl ?_
    refine y_callV dX6_booked_12 kX6_145 (c_X6_isPast hB hN8 (by omega) hw) (hB.lt (by decide)) (hB.2.1 0 (by decide)) rfl rfl rfl (Nat.le_of_ble_eq_true rfl) ⟨⟨by decide, by decide⟩, by decide, by decide⟩ (fun v12 n12 sh12 I12 P12 hp12 => ?_)
    obtain ⟨rfl, rfl, rfl, rfl, rfl⟩ := hp12
    refine z_if_ne 20 dX6_booked_15 (by decide) (bI_rng _) (fun c_15 => ?_) (fun c_15 => ?_)
    · have c_15 := bI_1 c_15
      obtain ⟨w0, rfl⟩ : ∃ w0 : Nat, w = w0 := ⟨w.toNat, by omega⟩
      simp only [Int.toNat_natCast]
      refine z_aload_n dX6_booked_20 rfl ?_
      refine y_getR dX6_booked_21 fX6_169 hMb.l0 hMb.2.1 rfl hMb.2.2.2.2.2.2.1 ?_
      refine z_iload_n dX6_booked_24 rfl ?_
      refine y_ialoadJ (w0) dX6_booked_25 hMb.l2 hMb.2.2.2.1 (by omega) (by decide) ?_
      refine z_top (M 38 (301 * m0 + w0)) (hMe.2.2.2.1 w0 (by omega)) ?_
      refine y_ireturn dX6_booked_26 rfl ?_
      rw [if_pos ⟨hm0, by omega⟩]
      exact kP.same hB hC
    · have c_15 := bI_0 c_15
      refine z_iconst dX6_booked_18 ?_
      refine y_ireturn dX6_booked_19 rfl ?_
      by_cases hw3 : 0 ≤ w ∧ w ≤ 300
      · rw [if_pos ⟨hm0, hw3⟩, show M 38 (301 * m0 + w.toNat) = 0 from hO.2.2.2.2.2.2.1.2 m0 w.toNat (by omega) (by omega) (by omega)]; exact kP.same hB hC
      · rw [if_neg (fun h => hw3 h.2)]; exact kP.same hB hC
  · refine yC_of (by decide) (Nat.le_of_ble_eq_true rfl) ?_
    refine z_aload_n dX6_booked_0 rfl ?_
    refine z_iload_n dX6_booked_1 rfl ?_
    refine y_callV dX6_booked_2 kX6_61 (c_X6_memberAt_no hB hN6 (by omega) hm hm0) (hB.lt (by decide)) (hB.2.1 0 (by decide)) rfl rfl rfl (Nat.le_of_ble_eq_true rfl) ⟨⟨by decide, by decide⟩, by decide, by decide⟩ (fun v2 n2 sh2 I2 P2 hp2 => ?_)
    obtain ⟨rfl, rfl, rfl, rfl, rfl⟩ := hp2
    refine z_astore_nN dX6_booked_5 (by decide) ?_
    refine z_aload_nN dX6_booked_6 rfl ?_
    refine z_ifnullN 18 dX6_booked_7 (by decide) ?_
    refine z_iconst dX6_booked_18 ?_
    refine y_ireturn dX6_booked_19 rfl ?_
    rw [if_neg (fun h => hm0 h.1)]
    exact kP.same hB hC
set_option maxHeartbeats 4000000 in
set_option maxRecDepth 100000 in
theorem c_X6_entry (hB : yB n sh P) {M : Nat → Nat → Int} {t mc rc pc bc c : Nat} {ma pa : Nat → Nat} {Ls : Nat → List Nat} {r rl : Nat} (hO : mOk M t mc rc pc bc c) (hC : cpl n sh I P M t mc rc pc bc ma pa Ls r rl) {i a : Int} (hi : (-2147483648 ≤ i ∧ i ≤ 2147483647)) (ha : (-2147483648 ≤ a ∧ a ≤ 2147483647)) : yC l E jX6_entry (rm 1 22) [.ref (zb E + 0), .int (iI i), .int (iI a)] n sh I P (kP (.int (iI (if (0 ≤ i ∧ i < (bc : Int)) then mEn M i.toNat a else -1000000))) I P M t mc rc pc bc rl) := by
  obtain ⟨hN6, hN7, hN8⟩ := hC.1
  have hb5 := hO.2.1
  have hL := hC.2.2.2.2.2.2.2.2.2.1
  refine yC_of (by decide) (Nat.le_of_ble_eq_true rfl) ?_
  refine z_aload_n dX6_entry_0 rfl ?_
  refine y_getR dX6_entry_1 fX6_40 (hB.lt (by decide)) (hB.2.1 0 (by decide)) rfl (hB.2.2.1 4) ?_
  refine z_iload_n dX6_entry_4 rfl ?_
  refine z_iload_n dX6_entry_5 rfl ?_
  refine y_callV dX6_entry_6 kX6_172 (c_X1_tell hB hL.1.2 hL.2.1.2.1 hL.2.1.2.2 hL.2.2.1.2.1 hL.1.1 hL.2.2.1.2.2.2 hi ha) (hB.lt (by decide)) (hB.2.1 19 (by decide)) rfl rfl rfl (Nat.le_of_ble_eq_true rfl) ⟨⟨by decide, by decide⟩, by decide, by decide⟩ (fun v6 n6 sh6 I6 P6 hp6 => ?_)
  obtain ⟨rfl, rfl, rfl, rfl, rfl⟩ := hp6
  refine y_ireturn dX6_entry_9 rfl ?_
  rw [ent_eq hL]
  exact kP.same hB hC
set_option maxHeartbeats 4000000 in
set_option maxRecDepth 100000 in
theorem c_X6_member (hB : yB n sh P) {M : Nat → Nat → Int} {t mc rc pc bc c : Nat} {ma pa : Nat → Nat} {Ls : Nat → List Nat} {r rl : Nat} (hO : mOk M t mc rc pc bc c) (hC : cpl n sh I P M t mc rc pc bc ma pa Ls r rl) {m a : Int} (hm : (-2147483648 ≤ m ∧ m ≤ 2147483647)) (ha : (-2147483648 ≤ a ∧ a ≤ 2147483647)) : yC l E jX6_member (rm 1 21) [.ref (zb E + 0), .int (iI m), .int (iI a)] n sh I P (kP (.int (iI (if (0 ≤ m ∧ m < (mc : Int)) then mMe M m.toNat a else -1))) I P M t mc rc pc bc rl) := by
  obtain ⟨hN6, hN7, hN8⟩ := hC.1
  have hb5 := hO.2.1
  by_cases hm0 : 0 ≤ m ∧ m < (mc : Int)
  · obtain ⟨m0, rfl⟩ : ∃ m0 : Nat, m = m0 := ⟨m.toNat, by omega⟩
    have hm1 : m0 < mc := by omega
    obtain ⟨hx, hMe⟩ := hC.2.2.2.1 m0 hm1
    have hMb := hMe.1
    simp only [Int.toNat_natCast]
    have hpt : I (ma m0 + 1) t = sm (fun k => M 28 (301 * m0 + k)) 301 := by rw [hMe.2.2.1 t (by omega)]; exact (hO.paid hm1).symm
    refine yC_of (by decide) (Nat.le_of_ble_eq_true rfl) ?_
    refine z_aload_n dX6_member_0 rfl ?_
    refine z_iload_n dX6_member_1 rfl ?_
    refine y_callV dX6_member_2 kX6_61 (c_X6_memberAt hB hN6 (by omega) hm1 hx) (hB.lt (by decide)) (hB.2.1 0 (by decide)) rfl rfl rfl (Nat.le_of_ble_eq_true rfl) ⟨⟨by decide, by decide⟩, by decide, by decide⟩ (fun v2 n2 sh2 I2 P2 hp2 => ?_)
    obtain ⟨rfl, rfl, rfl, rfl, rfl⟩ := hp2
    refine z_astore_n dX6_member_5 (by decide) ?_
    refine z_aload_n dX6_member_6 rfl ?_
    refine z_ifnonnull 12 dX6_member_7 (by decide) ?_
    refine z_iload_n dX6_member_12 rfl ?_
    rcases (show (a < 0 ∨ 3 < a) ∨ a = 0 ∨ a = 1 ∨ a = 2 ∨ a = 3 by omega) with hsw | hsw | hsw | hsw | hsw
    · refine z_tabOut 69 dX6_member_13 (by rw [iI_toInt (by omega)]; omega) (by decide) ?_
      refine z_iconst dX6_member_69 ?_
      refine y_ireturn dX6_member_70 rfl ?_
      rw [if_pos hm0]
      unfold mMe
      first | (rw [if_pos (by omega)]; exact kP.same hB hC) | (rw [if_neg (by omega), if_pos (by omega)]; exact kP.same hB hC) | (rw [if_neg (by omega), if_neg (by omega), if_pos (by omega)]; exact kP.same hB hC) | (rw [if_neg (by omega), if_neg (by omega), if_neg (by omega), if_pos (by omega)]; exact kP.same hB hC) | (rw [if_neg (by omega), if_neg (by omega), if_neg (by omega), if_neg (by omega)]; exact kP.same hB hC)
    · refine z_tabIn 44 0 dX6_member_13 (by rw [iI_toInt (by omega)]; omega) (by decide) (by decide) rfl (by decide) ?_
      refine z_aload_n dX6_member_44 rfl ?_
      refine y_getI dX6_member_45 fX6_178 hMb.l0 hMb.2.1 rfl ?_
      refine z_top (M 25 m0) (hMe.2.1.1) ?_
      refine y_ireturn dX6_member_48 rfl ?_
      rw [if_pos hm0]
      unfold mMe
      first | (rw [if_pos (by omega)]; exact kP.same hB hC) | (rw [if_neg (by omega), if_pos (by omega)]; exact kP.same hB hC) | (rw [if_neg (by omega), if_neg (by omega), if_pos (by omega)]; exact kP.same hB hC) | (rw [if_neg (by omega), if_neg (by omega), if_neg (by omega), if_pos (by omega)]; exact kP.same hB hC) | (rw [if_neg (by omega), if_neg (by omega), if_neg (by omega), if_neg (by omega)]; exact kP.same hB hC)
    · refine z_tabIn 49 1 dX6_member_13 (by rw [iI_toInt (by omega)]; omega) (by decide) (by decide) rfl (by decide) ?_
      refine z_aload_n dX6_member_49 rfl ?_
      refine y_getI dX6_member_50 fX6_198 hMb.l0 hMb.2.1 rfl ?_
      refine z_top (M 26 m0) (hMe.2.1.2.1) ?_
      refine y_ireturn dX6_member_53 rfl ?_
      rw [if_pos hm0]
      unfold mMe
      first | (rw [if_pos (by omega)]; exact kP.same hB hC) | (rw [if_neg (by omega), if_pos (by omega)]; exact kP.same hB hC) | (rw [if_neg (by omega), if_neg (by omega), if_pos (by omega)]; exact kP.same hB hC) | (rw [if_neg (by omega), if_neg (by omega), if_neg (by omega), if_pos (by omega)]; exact kP.same hB hC) | (rw [if_neg (by omega), if_neg (by omega), if_neg (by omega), if_neg (by omega)]; exact kP.same hB hC)
    · refine z_tabIn 54 2 dX6_member_13 (by rw [iI_toInt (by omega)]; omega) (by decide) (by decide) rfl (by decide) ?_
      refine z_aload_n dX6_member_54 rfl ?_
      refine y_getI dX6_member_55 fX6_100 hMb.l0 hMb.2.1 rfl ?_
      refine z_top (M 27 m0) (hMe.2.1.2.2) ?_
      refine y_ireturn dX6_member_58 rfl ?_
      rw [if_pos hm0]
      unfold mMe
      first | (rw [if_pos (by omega)]; exact kP.same hB hC) | (rw [if_neg (by omega), if_pos (by omega)]; exact kP.same hB hC) | (rw [if_neg (by omega), if_neg (by omega), if_pos (by omega)]; exact kP.same hB hC) | (rw [if_neg (by omega), if_neg (by omega), if_neg (by omega), if_pos (by omega)]; exact kP.same hB hC) | (rw [if_neg (by omega), if_neg (by omega), if_neg (by omega), if_neg (by omega)]; exact kP.same hB hC)
    · refine z_tabIn 59 3 dX6_member_13 (by rw [iI_toInt (by omega)]; omega) (by decide) (by decide) rfl (by decide) ?_
      refine z_aload_n dX6_member_59 rfl ?_
      refine y_getR dX6_member_60 fX6_66 hMb.l0 hMb.2.1 rfl hMb.2.2.2.2.2.1 ?_
      refine z_aload_n dX6_member_63 rfl ?_
      refine y_getI dX6_member_64 fX6_55 (hB.lt (by decide)) (hB.2.1 0 (by decide)) rfl ?_
      refine z_top ((t : Int)) (hN8) ?_
      refine y_ialoadJ (t) dX6_member_67 hMb.l1 hMb.2.2.1 (by omega) (by decide) ?_
      refine z_top (sm (fun k => M 28 (301 * m0 + k)) 301) (hpt) ?_
      refine y_ireturn dX6_member_68 rfl ?_
      rw [if_pos hm0]
      unfold mMe
      first | (rw [if_pos (by omega)]; exact kP.same hB hC) | (rw [if_neg (by omega), if_pos (by omega)]; exact kP.same hB hC) | (rw [if_neg (by omega), if_neg (by omega), if_pos (by omega)]; exact kP.same hB hC) | (rw [if_neg (by omega), if_neg (by omega), if_neg (by omega), if_pos (by omega)]; exact kP.same hB hC) | (rw [if_neg (by omega), if_neg (by omega), if_neg (by omega), if_neg (by omega)]; exact kP.same hB hC)
  · refine yC_of (by decide) (Nat.le_of_ble_eq_true rfl) ?_
    refine z_aload_n dX6_member_0 rfl ?_
    refine z_iload_n dX6_member_1 rfl ?_
    refine y_callV dX6_member_2 kX6_61 (c_X6_memberAt_no hB hN6 (by omega) hm hm0) (hB.lt (by decide)) (hB.2.1 0 (by decide)) rfl rfl rfl (Nat.le_of_ble_eq_true rfl) ⟨⟨by decide, by decide⟩, by decide, by decide⟩ (fun v2 n2 sh2 I2 P2 hp2 => ?_)
    obtain ⟨rfl, rfl, rfl, rfl, rfl⟩ := hp2
    refine z_astore_nN dX6_member_5 (by decide) ?_
    refine z_aload_nN dX6_member_6 rfl ?_
    refine z_ifnonnullN dX6_member_7 ?_
    refine z_iconst dX6_member_10 ?_
    refine y_ireturn dX6_member_11 rfl ?_
    rw [if_neg hm0]
    exact kP.same hB hC
set_option maxHeartbeats 4000000 in
set_option maxRecDepth 100000 in
theorem c_X6_told (hB : yB n sh P) {M : Nat → Nat → Int} {t mc rc pc bc c : Nat} {ma pa : Nat → Nat} {Ls : Nat → List Nat} {r rl : Nat} (hO : mOk M t mc rc pc bc c) (hC : cpl n sh I P M t mc rc pc bc ma pa Ls r rl) {p a : Int} (hp : (-2147483648 ≤ p ∧ p ≤ 2147483647)) (ha : (-2147483648 ≤ a ∧ a ≤ 2147483647)) : yC l E jX6_told (rm 1 21) [.ref (zb E + 0), .int (iI p), .int (iI a)] n sh I P (kP (.int (iI (if (0 ≤ p ∧ p < (pc : Int)) then mTo M p.toNat a else -1))) I P M t mc rc pc bc rl) := by
  obtain ⟨hN6, hN7, hN8⟩ := hC.1
  have hb5 := hO.2.1
  by_cases hp0 : 0 ≤ p ∧ p < (pc : Int)
  · obtain ⟨p0, rfl⟩ : ∃ p0 : Nat, p = p0 := ⟨p.toNat, by omega⟩
    have hp1 : p0 < pc := by omega
    obtain ⟨hx, ⟨hP2, hPl⟩, hPs, hPv⟩ := hC.2.2.2.2.2.2.1 p0 hp1
    simp only [Int.toNat_natCast]
    refine yC_of (by decide) (Nat.le_of_ble_eq_true rfl) ?_
    refine z_aload_n dX6_told_0 rfl ?_
    refine z_iload_n dX6_told_1 rfl ?_
    refine y_callV dX6_told_2 kX6_113 (c_X6_paperAt hB hN7 (by omega) hp1 hx) (hB.lt (by decide)) (hB.2.1 0 (by decide)) rfl rfl rfl (Nat.le_of_ble_eq_true rfl) ⟨⟨by decide, by decide⟩, by decide, by decide⟩ (fun v2 n2 sh2 I2 P2 hp2 => ?_)
    obtain ⟨rfl, rfl, rfl, rfl, rfl⟩ := hp2
    refine z_astore_n dX6_told_5 (by decide) ?_
    refine z_aload_n dX6_told_6 rfl ?_
    refine z_ifnonnull 12 dX6_told_7 (by decide) ?_
    refine z_iload_n dX6_told_12 rfl ?_
    rcases (show (a < 0 ∨ 4 < a) ∨ a = 0 ∨ a = 1 ∨ a = 2 ∨ a = 3 ∨ a = 4 by omega) with hsw | hsw | hsw | hsw | hsw | hsw
    · refine z_tabOut 73 dX6_told_13 (by rw [iI_toInt (by omega)]; omega) (by decide) ?_
      refine z_iconst dX6_told_73 ?_
      refine y_ireturn dX6_told_74 rfl ?_
      rw [if_pos hp0]
      unfold mTo
      first | (rw [if_pos (by omega)]; exact kP.same hB hC) | (rw [if_neg (by omega), if_pos (by omega)]; exact kP.same hB hC) | (rw [if_neg (by omega), if_neg (by omega), if_pos (by omega)]; exact kP.same hB hC) | (rw [if_neg (by omega), if_neg (by omega), if_neg (by omega), if_pos (by omega)]; exact kP.same hB hC) | (rw [if_neg (by omega), if_neg (by omega), if_neg (by omega), if_neg (by omega), if_pos (by omega)]; exact kP.same hB hC) | (rw [if_neg (by omega), if_neg (by omega), if_neg (by omega), if_neg (by omega), if_neg (by omega)]; exact kP.same hB hC)
    · refine z_tabIn 48 0 dX6_told_13 (by rw [iI_toInt (by omega)]; omega) (by decide) (by decide) rfl (by decide) ?_
      refine z_aload_n dX6_told_48 rfl ?_
      refine y_getI dX6_told_49 fX6_120 hPl hPs rfl ?_
      refine z_top (M 33 p0) (hPv.1) ?_
      refine y_ireturn dX6_told_52 rfl ?_
      rw [if_pos hp0]
      unfold mTo
      first | (rw [if_pos (by omega)]; exact kP.same hB hC) | (rw [if_neg (by omega), if_pos (by omega)]; exact kP.same hB hC) | (rw [if_neg (by omega), if_neg (by omega), if_pos (by omega)]; exact kP.same hB hC) | (rw [if_neg (by omega), if_neg (by omega), if_neg (by omega), if_pos (by omega)]; exact kP.same hB hC) | (rw [if_neg (by omega), if_neg (by omega), if_neg (by omega), if_neg (by omega), if_pos (by omega)]; exact kP.same hB hC) | (rw [if_neg (by omega), if_neg (by omega), if_neg (by omega), if_neg (by omega), if_neg (by omega)]; exact kP.same hB hC)
    · refine z_tabIn 53 1 dX6_told_13 (by rw [iI_toInt (by omega)]; omega) (by decide) (by decide) rfl (by decide) ?_
      refine z_aload_n dX6_told_53 rfl ?_
      refine y_getI dX6_told_54 fX6_205 hPl hPs rfl ?_
      refine z_top (M 34 p0) (hPv.2.1) ?_
      refine y_ireturn dX6_told_57 rfl ?_
      rw [if_pos hp0]
      unfold mTo
      first | (rw [if_pos (by omega)]; exact kP.same hB hC) | (rw [if_neg (by omega), if_pos (by omega)]; exact kP.same hB hC) | (rw [if_neg (by omega), if_neg (by omega), if_pos (by omega)]; exact kP.same hB hC) | (rw [if_neg (by omega), if_neg (by omega), if_neg (by omega), if_pos (by omega)]; exact kP.same hB hC) | (rw [if_neg (by omega), if_neg (by omega), if_neg (by omega), if_neg (by omega), if_pos (by omega)]; exact kP.same hB hC) | (rw [if_neg (by omega), if_neg (by omega), if_neg (by omega), if_neg (by omega), if_neg (by omega)]; exact kP.same hB hC)
    · refine z_tabIn 58 2 dX6_told_13 (by rw [iI_toInt (by omega)]; omega) (by decide) (by decide) rfl (by decide) ?_
      refine z_aload_n dX6_told_58 rfl ?_
      refine y_getI dX6_told_59 fX6_208 hPl hPs rfl ?_
      refine z_top (M 35 p0) (hPv.2.2.1) ?_
      refine y_ireturn dX6_told_62 rfl ?_
      rw [if_pos hp0]
      unfold mTo
      first | (rw [if_pos (by omega)]; exact kP.same hB hC) | (rw [if_neg (by omega), if_pos (by omega)]; exact kP.same hB hC) | (rw [if_neg (by omega), if_neg (by omega), if_pos (by omega)]; exact kP.same hB hC) | (rw [if_neg (by omega), if_neg (by omega), if_neg (by omega), if_pos (by omega)]; exact kP.same hB hC) | (rw [if_neg (by omega), if_neg (by omega), if_neg (by omega), if_neg (by omega), if_pos (by omega)]; exact kP.same hB hC) | (rw [if_neg (by omega), if_neg (by omega), if_neg (by omega), if_neg (by omega), if_neg (by omega)]; exact kP.same hB hC)
    · refine z_tabIn 63 3 dX6_told_13 (by rw [iI_toInt (by omega)]; omega) (by decide) (by decide) rfl (by decide) ?_
      refine z_aload_n dX6_told_63 rfl ?_
      refine y_getI dX6_told_64 fX6_211 hPl hPs rfl ?_
      refine z_top (M 36 p0) (hPv.2.2.2.1) ?_
      refine y_ireturn dX6_told_67 rfl ?_
      rw [if_pos hp0]
      unfold mTo
      first | (rw [if_pos (by omega)]; exact kP.same hB hC) | (rw [if_neg (by omega), if_pos (by omega)]; exact kP.same hB hC) | (rw [if_neg (by omega), if_neg (by omega), if_pos (by omega)]; exact kP.same hB hC) | (rw [if_neg (by omega), if_neg (by omega), if_neg (by omega), if_pos (by omega)]; exact kP.same hB hC) | (rw [if_neg (by omega), if_neg (by omega), if_neg (by omega), if_neg (by omega), if_pos (by omega)]; exact kP.same hB hC) | (rw [if_neg (by omega), if_neg (by omega), if_neg (by omega), if_neg (by omega), if_neg (by omega)]; exact kP.same hB hC)
    · refine z_tabIn 68 4 dX6_told_13 (by rw [iI_toInt (by omega)]; omega) (by decide) (by decide) rfl (by decide) ?_
      refine z_aload_n dX6_told_68 rfl ?_
      refine y_getI dX6_told_69 fX6_117 hPl hPs rfl ?_
      refine z_top (M 37 p0) (hPv.2.2.2.2) ?_
      refine y_ireturn dX6_told_72 rfl ?_
      rw [if_pos hp0]
      unfold mTo
      first | (rw [if_pos (by omega)]; exact kP.same hB hC) | (rw [if_neg (by omega), if_pos (by omega)]; exact kP.same hB hC) | (rw [if_neg (by omega), if_neg (by omega), if_pos (by omega)]; exact kP.same hB hC) | (rw [if_neg (by omega), if_neg (by omega), if_neg (by omega), if_pos (by omega)]; exact kP.same hB hC) | (rw [if_neg (by omega), if_neg (by omega), if_neg (by omega), if_neg (by omega), if_pos (by omega)]; exact kP.same hB hC) | (rw [if_neg (by omega), if_neg (by omega), if_neg (by omega), if_neg (by omega), if_neg (by omega)]; exact kP.same hB hC)
  · refine yC_of (by decide) (Nat.le_of_ble_eq_true rfl) ?_
    refine z_aload_n dX6_told_0 rfl ?_
    refine z_iload_n dX6_told_1 rfl ?_
    refine y_callV dX6_told_2 kX6_113 (c_X6_paperAt_no hB hN7 (by omega) hp hp0) (hB.lt (by decide)) (hB.2.1 0 (by decide)) rfl rfl rfl (Nat.le_of_ble_eq_true rfl) ⟨⟨by decide, by decide⟩, by decide, by decide⟩ (fun v2 n2 sh2 I2 P2 hp2 => ?_)
    obtain ⟨rfl, rfl, rfl, rfl, rfl⟩ := hp2
    refine z_astore_nN dX6_told_5 (by decide) ?_
    refine z_aload_nN dX6_told_6 rfl ?_
    refine z_ifnonnullN dX6_told_7 ?_
    refine z_iconst dX6_told_10 ?_
    refine y_ireturn dX6_told_11 rfl ?_
    rw [if_neg hp0]
    exact kP.same hB hC
end BRd
