section BAs
variable {l : Launch} {E : zEnv} {n : Nat} {sh : Nat → Nat × Nat} {I : Nat → Nat → Int} {P : Nat → Nat → Option Nat}
set_option maxHeartbeats 4000000 in
set_option maxRecDepth 100000 in
theorem c_X6_arrears (hB : yB n sh P) {M : Nat → Nat → Int} {t mc rc pc bc c : Nat} {ma pa : Nat → Nat} {Ls : Nat → List Nat} {r rl : Nat} (hO : mOk M t mc rc pc bc c) (hC : cpl n sh I P M t mc rc pc bc ma pa Ls r rl) {m w q : Int} (hm : (-2147483648 ≤ m ∧ m ≤ 2147483647)) (hw : (-2147483648 ≤ w ∧ w ≤ 2147483647)) (hq : (-2147483648 ≤ q ∧ q ≤ 2147483647)) : yC l E jX6_arrears (rm 3 70) [.ref (zb E + 0), .int (iI m), .int (iI w), .int (iI q)] n sh I P (kP (.int (iI (if ((0 ≤ m ∧ m < (mc : Int)) ∧ (0 ≤ w ∧ w ≤ (t : Int)) ∧ (0 ≤ q ∧ q ≤ (t : Int))) then arr (vF M q.toNat rc 0) (pd M m.toNat) (jn M m.toNat) w.toNat q.toNat else -1000000))) I P M t mc rc pc bc rl) := by
  obtain ⟨hN6, hN7, hN8⟩ := hC.1
  have hb5 := hO.2.1
  by_cases hm0 : 0 ≤ m ∧ m < (mc : Int)
  · obtain ⟨m0, rfl⟩ : ∃ m0 : Nat, m = m0 := ⟨m.toNat, by omega⟩
    have hm1 : m0 < mc := by omega
    obtain ⟨hx, hMe⟩ := hC.2.2.2.1 m0 hm1
    have hMb := hMe.1
    simp only [Int.toNat_natCast]
    refine yC_of (by decide) (Nat.le_of_ble_eq_true rfl) ?_
    refine z_aload_n dX6_arrears_0 rfl ?_
    refine z_iload_n dX6_arrears_1 rfl ?_
    refine y_callV dX6_arrears_2 kX6_61 (c_X6_memberAt hB hN6 (by omega) hm1 hx) (hB.lt (by decide)) (hB.2.1 0 (by decide)) rfl rfl rfl (Nat.le_of_ble_eq_true rfl) ⟨⟨by decide, by decide⟩, by decide, by decide⟩ (fun v2 n2 sh2 I2 P2 hp2 => ?_)
    obtain ⟨rfl, rfl, rfl, rfl, rfl⟩ := hp2
    refine z_astore dX6_arrears_5 (by decide) ?_
    refine z_aload dX6_arrears_7 rfl ?_
    refine z_ifnull dX6_arrears_9 ?_
    refine z_aload_n dX6_arrears_12 rfl ?_
    refine z_iload_n dX6_arrears_13 rfl ?_
    refine y_callV dX6_arrears_14 kX6_145 (c_X6_isPast hB hN8 (by omega) hw) (hB.lt (by decide)) (hB.2.1 0 (by decide)) rfl rfl rfl (Nat.le_of_ble_eq_true rfl) ⟨⟨by decide, by decide⟩, by decide, by decide⟩ (fun v14 n14 sh14 I14 P14 hp14 => ?_)
    obtain ⟨rfl, rfl, rfl, rfl, rfl⟩ := hp14
    refine z_if_eq 28 dX6_arrears_17 (by decide) (bI_rng _) (fun c_17 => ?_) (fun c_17 => ?_)
    · have c_17 := bI_0 c_17
      refine z_ldc _ dX6_arrears_28 qX6_65 ?_
      refine y_ireturn dX6_arrears_30 rfl ?_
      rw [if_neg (by omega)]
      exact kP.same hB hC
    · have c_17 := bI_1 c_17
      refine z_aload_n dX6_arrears_20 rfl ?_
      refine z_iload_n dX6_arrears_21 rfl ?_
      refine y_callV dX6_arrears_22 kX6_145 (c_X6_isPast hB hN8 (by omega) hq) (hB.lt (by decide)) (hB.2.1 0 (by decide)) rfl rfl rfl (Nat.le_of_ble_eq_true rfl) ⟨⟨by decide, by decide⟩, by decide, by decide⟩ (fun v22 n22 sh22 I22 P22 hp22 => ?_)
      obtain ⟨rfl, rfl, rfl, rfl, rfl⟩ := hp22
      refine z_if_ne 31 dX6_arrears_25 (by decide) (bI_rng _) (fun c_25 => ?_) (fun c_25 => ?_)
      · have c_25 := bI_1 c_25
        obtain ⟨w0, rfl⟩ : ∃ w0 : Nat, w = w0 := ⟨w.toNat, by omega⟩
        obtain ⟨q0, rfl⟩ : ∃ q0 : Nat, q = q0 := ⟨q.toNat, by omega⟩
        simp only [Int.toNat_natCast]
        refine z_aload_n dX6_arrears_31 rfl ?_
        refine y_getR dX6_arrears_32 fX6_24 (hB.lt (by decide)) (hB.2.1 0 (by decide)) rfl (hB.2.2.1 2) ?_
        refine z_iload_n dX6_arrears_35 rfl ?_
        refine z_aload_n dX6_arrears_36 rfl ?_
        refine y_getI dX6_arrears_37 fX6_55 (hB.lt (by decide)) (hB.2.1 0 (by decide)) rfl ?_
        refine z_top ((t : Int)) (hN8) ?_
        refine y_callV dX6_arrears_40 kX6_70 (c_X4_lookFrom (q := (q0 : Int)) (T := t) hB hC.2.1.1 (by omega) (cpl.Rl hO hC) hC.2.1.2.2.2.1 (by omega) (by omega)) (hB.lt (by decide)) (hB.2.1 3 (by decide)) rfl rfl rfl (Nat.le_of_ble_eq_true rfl) ⟨⟨by decide, by decide⟩, by decide, by decide⟩ (fun v40 n40 sh40 I40 P40 hp40 => ?_)
        obtain ⟨rfl, rfl, rfl, rfl, h40⟩ := hp40
        obtain ⟨hC2, hV, h16, hr⟩ := cpl.look hO hC h40
        have hg := cpl.go (q := q0) hO hC hr hm1 hV h16 (fun k w hk _ => vF_rng hO.2.2.1.1 hk)
        refine z_aload dX6_arrears_43 rfl ?_
        refine z_iload_n dX6_arrears_45 rfl ?_
        refine z_iload_n dX6_arrears_46 rfl ?_
        refine z_aload_n dX6_arrears_47 rfl ?_
        refine y_getR dX6_arrears_48 fX6_24 (hB.lt (by decide)) (hB.2.1 0 (by decide)) rfl (hB.2.2.1 2) ?_
        refine y_callV dX6_arrears_51 kX6_74 (c_X2_arrearsIn (w := w0) (q := q0) hB hMb (by omega) (by omega) hg.1.2.1 hg.1.2.2) hMb.l0 hMb.2.1 rfl rfl rfl (Nat.le_of_ble_eq_true rfl) ⟨⟨by decide, by decide⟩, by decide, by decide⟩ (fun v51 n51 sh51 I51 P51 hp51 => ?_)
        obtain ⟨rfl, rfl, rfl, rfl, rfl⟩ := hp51
        rw [hg.2.2.2.2.1 w0 (by omega)]
        refine y_ireturn dX6_arrears_54 rfl ?_
        rw [if_pos (by omega)]
        exact kP.ls hB hC2 hr
      · have c_25 := bI_0 c_25
        refine z_ldc _ dX6_arrears_28 qX6_65 ?_
        refine y_ireturn dX6_arrears_30 rfl ?_
        rw [if_neg (by omega)]
        exact kP.same hB hC
  · refine yC_of (by decide) (Nat.le_of_ble_eq_true rfl) ?_
    refine z_aload_n dX6_arrears_0 rfl ?_
    refine z_iload_n dX6_arrears_1 rfl ?_
    refine y_callV dX6_arrears_2 kX6_61 (c_X6_memberAt_no hB hN6 (by omega) hm hm0) (hB.lt (by decide)) (hB.2.1 0 (by decide)) rfl rfl rfl (Nat.le_of_ble_eq_true rfl) ⟨⟨by decide, by decide⟩, by decide, by decide⟩ (fun v2 n2 sh2 I2 P2 hp2 => ?_)
    obtain ⟨rfl, rfl, rfl, rfl, rfl⟩ := hp2
    refine z_astoreN dX6_arrears_5 (by decide) ?_
    refine z_aloadN dX6_arrears_7 rfl ?_
    refine z_ifnullN 28 dX6_arrears_9 (by decide) ?_
    refine z_ldc _ dX6_arrears_28 qX6_65 ?_
    refine y_ireturn dX6_arrears_30 rfl ?_
    rw [if_neg (fun h => hm0 h.1)]
    exact kP.same hB hC
set_option maxHeartbeats 4000000 in
set_option maxRecDepth 100000 in
theorem c_X6_out (hB : yB n sh P) {M : Nat → Nat → Int} {t mc rc pc bc c : Nat} {ma pa : Nat → Nat} {Ls : Nat → List Nat} {r rl : Nat} (hO : mOk M t mc rc pc bc c) (hC : cpl n sh I P M t mc rc pc bc ma pa Ls r rl) {m w q : Int} (hm : (-2147483648 ≤ m ∧ m ≤ 2147483647)) (hw : (-2147483648 ≤ w ∧ w ≤ 2147483647)) (hq : (-2147483648 ≤ q ∧ q ≤ 2147483647)) : yC l E jX6_out (rm 3 70) [.ref (zb E + 0), .int (iI m), .int (iI w), .int (iI q)] n sh I P (kP (.int (iI (bI (((0 ≤ m ∧ m < (mc : Int)) ∧ (0 ≤ w ∧ w ≤ (t : Int)) ∧ (0 ≤ q ∧ q ≤ (t : Int))) ∧ outB (vF M q.toNat rc) (pd M m.toNat) (jn M m.toNat) q.toNat w.toNat = true)))) I P M t mc rc pc bc rl) := by
  obtain ⟨hN6, hN7, hN8⟩ := hC.1
  have hb5 := hO.2.1
  by_cases hm0 : 0 ≤ m ∧ m < (mc : Int)
  · obtain ⟨m0, rfl⟩ : ∃ m0 : Nat, m = m0 := ⟨m.toNat, by omega⟩
    have hm1 : m0 < mc := by omega
    obtain ⟨hx, hMe⟩ := hC.2.2.2.1 m0 hm1
    have hMb := hMe.1
    simp only [Int.toNat_natCast]
    refine yC_of (by decide) (Nat.le_of_ble_eq_true rfl) ?_
    refine z_aload_n dX6_out_0 rfl ?_
    refine z_iload_n dX6_out_1 rfl ?_
    refine y_callV dX6_out_2 kX6_61 (c_X6_memberAt hB hN6 (by omega) hm1 hx) (hB.lt (by decide)) (hB.2.1 0 (by decide)) rfl rfl rfl (Nat.le_of_ble_eq_true rfl) ⟨⟨by decide, by decide⟩, by decide, by decide⟩ (fun v2 n2 sh2 I2 P2 hp2 => ?_)
    obtain ⟨rfl, rfl, rfl, rfl, rfl⟩ := hp2
    refine z_astore dX6_out_5 (by decide) ?_
    refine z_aload dX6_out_7 rfl ?_
    refine z_ifnull dX6_out_9 ?_
    refine z_aload_n dX6_out_12 rfl ?_
    refine z_iload_n dX6_out_13 rfl ?_
    refine y_callV dX6_out_14 kX6_145 (c_X6_isPast hB hN8 (by omega) hw) (hB.lt (by decide)) (hB.2.1 0 (by decide)) rfl rfl rfl (Nat.le_of_ble_eq_true rfl) ⟨⟨by decide, by decide⟩, by decide, by decide⟩ (fun v14 n14 sh14 I14 P14 hp14 => ?_)
    obtain ⟨rfl, rfl, rfl, rfl, rfl⟩ := hp14
    refine z_if_eq 28 dX6_out_17 (by decide) (bI_rng _) (fun c_17 => ?_) (fun c_17 => ?_)
    · have c_17 := bI_0 c_17
      refine z_iconst dX6_out_28 ?_
      refine y_zreturn dX6_out_29 rfl (by decide) ?_
      rw [bI_f (fun h => by omega)]
      exact kP.same hB hC
    · have c_17 := bI_1 c_17
      refine z_aload_n dX6_out_20 rfl ?_
      refine z_iload_n dX6_out_21 rfl ?_
      refine y_callV dX6_out_22 kX6_145 (c_X6_isPast hB hN8 (by omega) hq) (hB.lt (by decide)) (hB.2.1 0 (by decide)) rfl rfl rfl (Nat.le_of_ble_eq_true rfl) ⟨⟨by decide, by decide⟩, by decide, by decide⟩ (fun v22 n22 sh22 I22 P22 hp22 => ?_)
      obtain ⟨rfl, rfl, rfl, rfl, rfl⟩ := hp22
      refine z_if_ne 30 dX6_out_25 (by decide) (bI_rng _) (fun c_25 => ?_) (fun c_25 => ?_)
      · have c_25 := bI_1 c_25
        obtain ⟨w0, rfl⟩ : ∃ w0 : Nat, w = w0 := ⟨w.toNat, by omega⟩
        obtain ⟨q0, rfl⟩ : ∃ q0 : Nat, q = q0 := ⟨q.toNat, by omega⟩
        simp only [Int.toNat_natCast]
        refine z_aload_n dX6_out_30 rfl ?_
        refine y_getR dX6_out_31 fX6_24 (hB.lt (by decide)) (hB.2.1 0 (by decide)) rfl (hB.2.2.1 2) ?_
        refine z_iload_n dX6_out_34 rfl ?_
        refine z_aload_n dX6_out_35 rfl ?_
        refine y_getI dX6_out_36 fX6_55 (hB.lt (by decide)) (hB.2.1 0 (by decide)) rfl ?_
        refine z_top ((t : Int)) (hN8) ?_
        refine y_callV dX6_out_39 kX6_70 (c_X4_lookFrom (q := (q0 : Int)) (T := t) hB hC.2.1.1 (by omega) (cpl.Rl hO hC) hC.2.1.2.2.2.1 (by omega) (by omega)) (hB.lt (by decide)) (hB.2.1 3 (by decide)) rfl rfl rfl (Nat.le_of_ble_eq_true rfl) ⟨⟨by decide, by decide⟩, by decide, by decide⟩ (fun v39 n39 sh39 I39 P39 hp39 => ?_)
        obtain ⟨rfl, rfl, rfl, rfl, h39⟩ := hp39
        obtain ⟨hC2, hV, h16, hr⟩ := cpl.look hO hC h39
        have hg := cpl.go (q := q0) hO hC hr hm1 hV h16 (fun k w hk _ => vF_rng hO.2.2.1.1 hk)
        refine z_aload dX6_out_42 rfl ?_
        refine z_iload_n dX6_out_44 rfl ?_
        refine z_iload_n dX6_out_45 rfl ?_
        refine z_aload_n dX6_out_46 rfl ?_
        refine y_getR dX6_out_47 fX6_24 (hB.lt (by decide)) (hB.2.1 0 (by decide)) rfl (hB.2.2.1 2) ?_
        refine y_callV dX6_out_50 kX6_159 (c_X2_isOutIn (w := w0) (q := q0) hB hMb (by omega) (by omega) hg.1.2.1 hg.1.2.2 (hg.2.1 w0 (by omega)) (hg.2.2.1 6 w0 (by omega) (by omega)) (hg.2.2.1 0 w0 (by omega) (by omega))) hMb.l0 hMb.2.1 rfl rfl rfl (Nat.le_of_ble_eq_true rfl) ⟨⟨by decide, by decide⟩, by decide, by decide⟩ (fun v50 n50 sh50 I50 P50 hp50 => ?_)
        obtain ⟨rfl, rfl, rfl, rfl, rfl⟩ := hp50
        rw [← bI_bOu, hg.2.2.2.2.2 w0 (by omega)]
        refine y_zreturn dX6_out_53 rfl (bI_or _) ?_
        rw [bI_cong (and_iff_right (show ((0 ≤ (m0 : Int) ∧ (m0 : Int) < (mc : Int)) ∧ (0 ≤ (w0 : Int) ∧ (w0 : Int) ≤ (t : Int)) ∧ (0 ≤ (q0 : Int) ∧ (q0 : Int) ≤ (t : Int))) by omega))]
        exact kP.ls hB hC2 hr
      · have c_25 := bI_0 c_25
        refine z_iconst dX6_out_28 ?_
        refine y_zreturn dX6_out_29 rfl (by decide) ?_
        rw [bI_f (fun h => by omega)]
        exact kP.same hB hC
  · refine yC_of (by decide) (Nat.le_of_ble_eq_true rfl) ?_
    refine z_aload_n dX6_out_0 rfl ?_
    refine z_iload_n dX6_out_1 rfl ?_
    refine y_callV dX6_out_2 kX6_61 (c_X6_memberAt_no hB hN6 (by omega) hm hm0) (hB.lt (by decide)) (hB.2.1 0 (by decide)) rfl rfl rfl (Nat.le_of_ble_eq_true rfl) ⟨⟨by decide, by decide⟩, by decide, by decide⟩ (fun v2 n2 sh2 I2 P2 hp2 => ?_)
    obtain ⟨rfl, rfl, rfl, rfl, rfl⟩ := hp2
    refine z_astoreN dX6_out_5 (by decide) ?_
    refine z_aloadN dX6_out_7 rfl ?_
    refine z_ifnullN 28 dX6_out_9 (by decide) ?_
    refine z_iconst dX6_out_28 ?_
    refine y_zreturn dX6_out_29 rfl (by decide) ?_
    rw [bI_f (fun h => hm0 h.1.1)]
    exact kP.same hB hC
set_option maxHeartbeats 4000000 in
set_option maxRecDepth 100000 in
theorem c_X6_grant (hB : yB n sh P) {M : Nat → Nat → Int} {t mc rc pc bc c : Nat} {ma pa : Nat → Nat} {Ls : Nat → List Nat} {r rl : Nat} (hO : mOk M t mc rc pc bc c) (hC : cpl n sh I P M t mc rc pc bc ma pa Ls r rl) {m w q : Int} (hm : (-2147483648 ≤ m ∧ m ≤ 2147483647)) (hw : (-2147483648 ≤ w ∧ w ≤ 2147483647)) (hq : (-2147483648 ≤ q ∧ q ≤ 2147483647)) : yC l E jX6_grant (rm 6 143) [.ref (zb E + 0), .int (iI m), .int (iI w), .int (iI q)] n sh I P (kP (.int (iI (if ((0 ≤ m ∧ m < (mc : Int)) ∧ (0 ≤ w ∧ w ≤ (t : Int)) ∧ (0 ≤ q ∧ q ≤ (t : Int))) then GRm M m.toNat q.toNat pc rc w.toNat (7 * t + 7) else -1))) I P M t mc rc pc bc rl) := by
  obtain ⟨hN6, hN7, hN8⟩ := hC.1
  have hb5 := hO.2.1
  by_cases hm0 : 0 ≤ m ∧ m < (mc : Int)
  · obtain ⟨m0, rfl⟩ : ∃ m0 : Nat, m = m0 := ⟨m.toNat, by omega⟩
    have hm1 : m0 < mc := by omega
    obtain ⟨hx, hMe⟩ := hC.2.2.2.1 m0 hm1
    have hMb := hMe.1
    simp only [Int.toNat_natCast]
    refine yC_of (by decide) (Nat.le_of_ble_eq_true rfl) ?_
    refine z_aload_n dX6_grant_0 rfl ?_
    refine z_iload_n dX6_grant_1 rfl ?_
    refine y_callV dX6_grant_2 kX6_61 (c_X6_memberAt hB hN6 (by omega) hm1 hx) (hB.lt (by decide)) (hB.2.1 0 (by decide)) rfl rfl rfl (Nat.le_of_ble_eq_true rfl) ⟨⟨by decide, by decide⟩, by decide, by decide⟩ (fun v2 n2 sh2 I2 P2 hp2 => ?_)
    obtain ⟨rfl, rfl, rfl, rfl, rfl⟩ := hp2
    refine z_astore dX6_grant_5 (by decide) ?_
    refine z_aload dX6_grant_7 rfl ?_
    refine z_ifnull dX6_grant_9 ?_
    refine z_aload_n dX6_grant_12 rfl ?_
    refine z_iload_n dX6_grant_13 rfl ?_
    refine y_callV dX6_grant_14 kX6_145 (c_X6_isPast hB hN8 (by omega) hw) (hB.lt (by decide)) (hB.2.1 0 (by decide)) rfl rfl rfl (Nat.le_of_ble_eq_true rfl) ⟨⟨by decide, by decide⟩, by decide, by decide⟩ (fun v14 n14 sh14 I14 P14 hp14 => ?_)
    obtain ⟨rfl, rfl, rfl, rfl, rfl⟩ := hp14
    refine z_if_eq 28 dX6_grant_17 (by decide) (bI_rng _) (fun c_17 => ?_) (fun c_17 => ?_)
    · have c_17 := bI_0 c_17
      refine z_iconst dX6_grant_28 ?_
      refine y_ireturn dX6_grant_29 rfl ?_
      rw [if_neg (by omega)]
      exact kP.same hB hC
    · have c_17 := bI_1 c_17
      refine z_aload_n dX6_grant_20 rfl ?_
      refine z_iload_n dX6_grant_21 rfl ?_
      refine y_callV dX6_grant_22 kX6_145 (c_X6_isPast hB hN8 (by omega) hq) (hB.lt (by decide)) (hB.2.1 0 (by decide)) rfl rfl rfl (Nat.le_of_ble_eq_true rfl) ⟨⟨by decide, by decide⟩, by decide, by decide⟩ (fun v22 n22 sh22 I22 P22 hp22 => ?_)
      obtain ⟨rfl, rfl, rfl, rfl, rfl⟩ := hp22
      refine z_if_ne 30 dX6_grant_25 (by decide) (bI_rng _) (fun c_25 => ?_) (fun c_25 => ?_)
      · have c_25 := bI_1 c_25
        obtain ⟨w0, rfl⟩ : ∃ w0 : Nat, w = w0 := ⟨w.toNat, by omega⟩
        obtain ⟨q0, rfl⟩ : ∃ q0 : Nat, q = q0 := ⟨q.toNat, by omega⟩
        simp only [Int.toNat_natCast]
        refine z_aload_n dX6_grant_30 rfl ?_
        refine y_getR dX6_grant_31 fX6_24 (hB.lt (by decide)) (hB.2.1 0 (by decide)) rfl (hB.2.2.1 2) ?_
        refine z_iload_n dX6_grant_34 rfl ?_
        refine z_aload_n dX6_grant_35 rfl ?_
        refine y_getI dX6_grant_36 fX6_55 (hB.lt (by decide)) (hB.2.1 0 (by decide)) rfl ?_
        refine z_top ((t : Int)) (hN8) ?_
        refine y_callV dX6_grant_39 kX6_70 (c_X4_lookFrom (q := (q0 : Int)) (T := t) hB hC.2.1.1 (by omega) (cpl.Rl hO hC) hC.2.1.2.2.2.1 (by omega) (by omega)) (hB.lt (by decide)) (hB.2.1 3 (by decide)) rfl rfl rfl (Nat.le_of_ble_eq_true rfl) ⟨⟨by decide, by decide⟩, by decide, by decide⟩ (fun v39 n39 sh39 I39 P39 hp39 => ?_)
        obtain ⟨rfl, rfl, rfl, rfl, h39⟩ := hp39
        obtain ⟨hC2, hV, h16, hr⟩ := cpl.look hO hC h39
        have hg := cpl.go (q := q0) hO hC hr hm1 hV h16 (fun k w hk _ => vF_rng hO.2.2.1.1 hk)
        refine z_aload_n dX6_grant_42 rfl ?_
        refine y_getR dX6_grant_43 fX6_33 (hB.lt (by decide)) (hB.2.1 0 (by decide)) rfl (hB.2.2.1 3) ?_
        refine z_aload dX6_grant_46 rfl ?_
        refine z_iload_n dX6_grant_48 rfl ?_
        refine z_iload_n dX6_grant_49 rfl ?_
        refine y_callV dX6_grant_50 kX6_152 (c_X0_grantOf (w := w0) (q := q0) hB hMb (by omega) (by omega) hg.1.2.1 hg.1.2.2 (fun w1 h1 => hg.2.1 w1 (by omega)) (fun k w1 h1 h2 => hg.2.2.1 k w1 h1 (by omega)) hg.2.2.2.1.1 hg.2.2.2.1.2.1 hg.2.2.2.1.2.2.1 hg.2.2.2.1.2.2.2) (hB.lt (by decide)) (hB.2.1 17 (by decide)) rfl rfl rfl (Nat.le_of_ble_eq_true rfl) ⟨⟨by decide, by decide⟩, by decide, by decide⟩ (fun v50 n50 sh50 I50 P50 hp50 => ?_)
        obtain ⟨rfl, rfl, rfl, hfr, hok, S, hS, rfl⟩ := hp50
        refine z_top (GRm M m0 q0 pc rc w0 (7 * t + 7)) (cpl.gr (D := 7 * w0 + 6) hO hC hr hm1 hV h16 (by omega) (by omega) hS) ?_
        refine y_ireturn dX6_grant_53 rfl ?_
        rw [if_pos (by omega)]
        exact kP.cs hO hB hC2 hr hfr hok
      · have c_25 := bI_0 c_25
        refine z_iconst dX6_grant_28 ?_
        refine y_ireturn dX6_grant_29 rfl ?_
        rw [if_neg (by omega)]
        exact kP.same hB hC
  · refine yC_of (by decide) (Nat.le_of_ble_eq_true rfl) ?_
    refine z_aload_n dX6_grant_0 rfl ?_
    refine z_iload_n dX6_grant_1 rfl ?_
    refine y_callV dX6_grant_2 kX6_61 (c_X6_memberAt_no hB hN6 (by omega) hm hm0) (hB.lt (by decide)) (hB.2.1 0 (by decide)) rfl rfl rfl (Nat.le_of_ble_eq_true rfl) ⟨⟨by decide, by decide⟩, by decide, by decide⟩ (fun v2 n2 sh2 I2 P2 hp2 => ?_)
    obtain ⟨rfl, rfl, rfl, rfl, rfl⟩ := hp2
    refine z_astoreN dX6_grant_5 (by decide) ?_
    refine z_aloadN dX6_grant_7 rfl ?_
    refine z_ifnullN 28 dX6_grant_9 (by decide) ?_
    refine z_iconst dX6_grant_28 ?_
    refine y_ireturn dX6_grant_29 rfl ?_
    rw [if_neg (fun h => hm0 h.1)]
    exact kP.same hB hC
set_option maxHeartbeats 4000000 in
set_option maxRecDepth 100000 in
theorem c_X6_day (hB : yB n sh P) {M : Nat → Nat → Int} {t mc rc pc bc c : Nat} {ma pa : Nat → Nat} {Ls : Nat → List Nat} {r rl : Nat} (hO : mOk M t mc rc pc bc c) (hC : cpl n sh I P M t mc rc pc bc ma pa Ls r rl) {m d q : Int} (hm : (-2147483648 ≤ m ∧ m ≤ 2147483647)) (hd : (-2147483648 ≤ d ∧ d ≤ 2147483647)) (hq : (-2147483648 ≤ q ∧ q ≤ 2147483647)) : yC l E jX6_day (rm 6 143) [.ref (zb E + 0), .int (iI m), .int (iI d), .int (iI q)] n sh I P (kP (.int (iI (if ((0 ≤ m ∧ m < (mc : Int)) ∧ (0 ≤ d ∧ d ≤ 7 * (t : Int) + 6) ∧ (0 ≤ q ∧ q ≤ (t : Int))) then WHm M m.toNat q.toNat pc rc d.toNat else -1))) I P M t mc rc pc bc rl) := by
  obtain ⟨hN6, hN7, hN8⟩ := hC.1
  have hb5 := hO.2.1
  by_cases hm0 : 0 ≤ m ∧ m < (mc : Int)
  · obtain ⟨m0, rfl⟩ : ∃ m0 : Nat, m = m0 := ⟨m.toNat, by omega⟩
    have hm1 : m0 < mc := by omega
    obtain ⟨hx, hMe⟩ := hC.2.2.2.1 m0 hm1
    have hMb := hMe.1
    simp only [Int.toNat_natCast]
    refine yC_of (by decide) (Nat.le_of_ble_eq_true rfl) ?_
    refine z_aload_n dX6_day_0 rfl ?_
    refine z_iload_n dX6_day_1 rfl ?_
    refine y_callV dX6_day_2 kX6_61 (c_X6_memberAt hB hN6 (by omega) hm1 hx) (hB.lt (by decide)) (hB.2.1 0 (by decide)) rfl rfl rfl (Nat.le_of_ble_eq_true rfl) ⟨⟨by decide, by decide⟩, by decide, by decide⟩ (fun v2 n2 sh2 I2 P2 hp2 => ?_)
    obtain ⟨rfl, rfl, rfl, rfl, rfl⟩ := hp2
    refine z_astore dX6_day_5 (by decide) ?_
    refine z_aload dX6_day_7 rfl ?_
    refine z_ifnull dX6_day_9 ?_
    refine z_iload_n dX6_day_12 rfl ?_
    refine z_if_lt 35 dX6_day_13 (by decide) (by omega) (fun c_13 => ?_) (fun c_13 => ?_)
    · refine z_iconst dX6_day_35 ?_
      refine y_ireturn dX6_day_36 rfl ?_
      rw [if_neg (by omega)]
      exact kP.same hB hC
    · refine z_iload_n dX6_day_16 rfl ?_
      refine z_aload_n dX6_day_17 rfl ?_
      refine y_getI dX6_day_18 fX6_55 (hB.lt (by decide)) (hB.2.1 0 (by decide)) rfl ?_
      refine z_top ((t : Int)) (hN8) ?_
      refine y_callS dX6_day_21 kX6_103 (c_X6_lastDayOf (w := (t : Int))) rfl rfl (Nat.le_of_ble_eq_true rfl) ⟨⟨by decide, by decide⟩, by decide, by decide⟩ (fun v21 n21 sh21 I21 P21 hp21 => ?_)
      obtain ⟨rfl, rfl, rfl, rfl, rfl⟩ := hp21
      refine z_icmp_gt 35 dX6_day_24 (by decide) (by omega) (by omega) (fun c_24 => ?_) (fun c_24 => ?_)
      · refine z_iconst dX6_day_35 ?_
        refine y_ireturn dX6_day_36 rfl ?_
        rw [if_neg (by omega)]
        exact kP.same hB hC
      · refine z_aload_n dX6_day_27 rfl ?_
        refine z_iload_n dX6_day_28 rfl ?_
        refine y_callV dX6_day_29 kX6_145 (c_X6_isPast hB hN8 (by omega) hq) (hB.lt (by decide)) (hB.2.1 0 (by decide)) rfl rfl rfl (Nat.le_of_ble_eq_true rfl) ⟨⟨by decide, by decide⟩, by decide, by decide⟩ (fun v29 n29 sh29 I29 P29 hp29 => ?_)
        obtain ⟨rfl, rfl, rfl, rfl, rfl⟩ := hp29
        refine z_if_ne 37 dX6_day_32 (by decide) (bI_rng _) (fun c_32 => ?_) (fun c_32 => ?_)
        · have c_32 := bI_1 c_32
          obtain ⟨d0, rfl⟩ : ∃ d0 : Nat, d = d0 := ⟨d.toNat, by omega⟩
          obtain ⟨q0, rfl⟩ : ∃ q0 : Nat, q = q0 := ⟨q.toNat, by omega⟩
          simp only [Int.toNat_natCast]
          refine z_aload_n dX6_day_37 rfl ?_
          refine y_getR dX6_day_38 fX6_24 (hB.lt (by decide)) (hB.2.1 0 (by decide)) rfl (hB.2.2.1 2) ?_
          refine z_iload_n dX6_day_41 rfl ?_
          refine z_aload_n dX6_day_42 rfl ?_
          refine y_getI dX6_day_43 fX6_55 (hB.lt (by decide)) (hB.2.1 0 (by decide)) rfl ?_
          refine z_top ((t : Int)) (hN8) ?_
          refine y_callV dX6_day_46 kX6_70 (c_X4_lookFrom (q := (q0 : Int)) (T := t) hB hC.2.1.1 (by omega) (cpl.Rl hO hC) hC.2.1.2.2.2.1 (by omega) (by omega)) (hB.lt (by decide)) (hB.2.1 3 (by decide)) rfl rfl rfl (Nat.le_of_ble_eq_true rfl) ⟨⟨by decide, by decide⟩, by decide, by decide⟩ (fun v46 n46 sh46 I46 P46 hp46 => ?_)
          obtain ⟨rfl, rfl, rfl, rfl, h46⟩ := hp46
          obtain ⟨hC2, hV, h16, hr⟩ := cpl.look hO hC h46
          have hg := cpl.go (q := q0) hO hC hr hm1 hV h16 (fun k w hk _ => vF_rng hO.2.2.1.1 hk)
          refine z_aload_n dX6_day_49 rfl ?_
          refine y_getR dX6_day_50 fX6_33 (hB.lt (by decide)) (hB.2.1 0 (by decide)) rfl (hB.2.2.1 3) ?_
          refine z_aload dX6_day_53 rfl ?_
          refine z_iload_n dX6_day_55 rfl ?_
          refine z_iload_n dX6_day_56 rfl ?_
          refine y_callV dX6_day_57 kX6_156 (c_X0_natureOf (d := d0) (q := q0) hB hMb (by omega) (by omega) hg.1.2.1 hg.1.2.2 (fun w1 h1 => hg.2.1 w1 (by omega)) (fun k w1 h1 h2 => hg.2.2.1 k w1 h1 (by omega)) hg.2.2.2.1.1 hg.2.2.2.1.2.1 hg.2.2.2.1.2.2.1 hg.2.2.2.1.2.2.2) (hB.lt (by decide)) (hB.2.1 17 (by decide)) rfl rfl rfl (Nat.le_of_ble_eq_true rfl) ⟨⟨by decide, by decide⟩, by decide, by decide⟩ (fun v57 n57 sh57 I57 P57 hp57 => ?_)
          obtain ⟨rfl, rfl, rfl, hfr, hok, S, hS, rfl⟩ := hp57
          refine z_top (WHm M m0 q0 pc rc d0) (cpl.wh hO hC hr hm1 hV h16 (by omega) hS) ?_
          refine y_ireturn dX6_day_60 rfl ?_
          rw [if_pos (by omega)]
          exact kP.cs hO hB hC2 hr hfr hok
        · have c_32 := bI_0 c_32
          refine z_iconst dX6_day_35 ?_
          refine y_ireturn dX6_day_36 rfl ?_
          rw [if_neg (by omega)]
          exact kP.same hB hC
  · refine yC_of (by decide) (Nat.le_of_ble_eq_true rfl) ?_
    refine z_aload_n dX6_day_0 rfl ?_
    refine z_iload_n dX6_day_1 rfl ?_
    refine y_callV dX6_day_2 kX6_61 (c_X6_memberAt_no hB hN6 (by omega) hm hm0) (hB.lt (by decide)) (hB.2.1 0 (by decide)) rfl rfl rfl (Nat.le_of_ble_eq_true rfl) ⟨⟨by decide, by decide⟩, by decide, by decide⟩ (fun v2 n2 sh2 I2 P2 hp2 => ?_)
    obtain ⟨rfl, rfl, rfl, rfl, rfl⟩ := hp2
    refine z_astoreN dX6_day_5 (by decide) ?_
    refine z_aloadN dX6_day_7 rfl ?_
    refine z_ifnullN 35 dX6_day_9 (by decide) ?_
    refine z_iconst dX6_day_35 ?_
    refine y_ireturn dX6_day_36 rfl ?_
    rw [if_neg (fun h => hm0 h.1)]
    exact kP.same hB hC
set_option maxHeartbeats 4000000 in
set_option maxRecDepth 100000 in
theorem c_X6_what (hB : yB n sh P) {M : Nat → Nat → Int} {t mc rc pc bc c : Nat} {ma pa : Nat → Nat} {Ls : Nat → List Nat} {r rl : Nat} (hO : mOk M t mc rc pc bc c) (hC : cpl n sh I P M t mc rc pc bc ma pa Ls r rl) {m w k f v : Int} (hm : (-2147483648 ≤ m ∧ m ≤ 2147483647)) (hw : (-2147483648 ≤ w ∧ w ≤ 2147483647)) (hk : (-2147483648 ≤ k ∧ k ≤ 2147483647)) (hf : (-2147483648 ≤ f ∧ f ≤ 2147483647)) (hv : (-2147483648 ≤ v ∧ v ≤ 2147483647)) : yC l E jX6_what (rm 6 143) [.ref (zb E + 0), .int (iI m), .int (iI w), .int (iI k), .int (iI f), .int (iI v)] n sh I P (kP (.int (iI (if ((0 ≤ m ∧ m < (mc : Int)) ∧ (0 ≤ w ∧ w ≤ (t : Int)) ∧ sRule k f v) then GRm (mWr M rc k f v (t : Int)) m.toNat t pc (rc + 1) w.toNat (7 * t + 7) else -1))) I P M t mc rc pc bc rl) := by
  obtain ⟨hN6, hN7, hN8⟩ := hC.1
  have hb5 := hO.2.1
  by_cases hm0 : 0 ≤ m ∧ m < (mc : Int)
  · obtain ⟨m0, rfl⟩ : ∃ m0 : Nat, m = m0 := ⟨m.toNat, by omega⟩
    have hm1 : m0 < mc := by omega
    obtain ⟨hx, hMe⟩ := hC.2.2.2.1 m0 hm1
    have hMb := hMe.1
    simp only [Int.toNat_natCast]
    refine yC_of (by decide) (Nat.le_of_ble_eq_true rfl) ?_
    refine z_aload_n dX6_what_0 rfl ?_
    refine z_iload_n dX6_what_1 rfl ?_
    refine y_callV dX6_what_2 kX6_61 (c_X6_memberAt hB hN6 (by omega) hm1 hx) (hB.lt (by decide)) (hB.2.1 0 (by decide)) rfl rfl rfl (Nat.le_of_ble_eq_true rfl) ⟨⟨by decide, by decide⟩, by decide, by decide⟩ (fun v2 n2 sh2 I2 P2 hp2 => ?_)
    obtain ⟨rfl, rfl, rfl, rfl, rfl⟩ := hp2
    refine z_astore dX6_what_5 (by decide) ?_
    refine z_aload dX6_what_7 rfl ?_
    refine z_ifnull dX6_what_9 ?_
    refine z_aload_n dX6_what_12 rfl ?_
    refine z_iload_n dX6_what_13 rfl ?_
    refine y_callV dX6_what_14 kX6_145 (c_X6_isPast hB hN8 (by omega) hw) (hB.lt (by decide)) (hB.2.1 0 (by decide)) rfl rfl rfl (Nat.le_of_ble_eq_true rfl) ⟨⟨by decide, by decide⟩, by decide, by decide⟩ (fun v14 n14 sh14 I14 P14 hp14 => ?_)
    obtain ⟨rfl, rfl, rfl, rfl, rfl⟩ := hp14
    refine z_if_eq 31 dX6_what_17 (by decide) (bI_rng _) (fun c_17 => ?_) (fun c_17 => ?_)
    · have c_17 := bI_0 c_17
      refine z_iconst dX6_what_31 ?_
      refine y_ireturn dX6_what_32 rfl ?_
      rw [if_neg (fun h => by first | exact c_28 h.2.2 | exact c_17 h.2.1)]
      exact kP.same hB hC
    · have c_17 := bI_1 c_17
      refine z_iload_n dX6_what_20 rfl ?_
      refine z_iload dX6_what_21 rfl ?_
      refine z_iload dX6_what_23 rfl ?_
      refine y_callS dX6_what_25 kX6_78 (c_X4_mayBe hk hf hv) rfl rfl (Nat.le_of_ble_eq_true rfl) ⟨⟨by decide, by decide⟩, by decide, by decide⟩ (fun v25 n25 sh25 I25 P25 hp25 => ?_)
      obtain ⟨rfl, rfl, rfl, rfl, rfl⟩ := hp25
      refine z_if_ne 33 dX6_what_28 (by decide) (bI_rng _) (fun c_28 => ?_) (fun c_28 => ?_)
      · have c_28 := bI_1 c_28
        obtain ⟨w0, rfl⟩ : ∃ w0 : Nat, w = w0 := ⟨w.toNat, by omega⟩
        simp only [Int.toNat_natCast]
        refine z_aload_n dX6_what_33 rfl ?_
        refine y_getR dX6_what_34 fX6_24 (hB.lt (by decide)) (hB.2.1 0 (by decide)) rfl (hB.2.2.1 2) ?_
        refine z_iload_n dX6_what_37 rfl ?_
        refine z_iload dX6_what_38 rfl ?_
        refine z_iload dX6_what_40 rfl ?_
        refine z_aload_n dX6_what_42 rfl ?_
        refine y_getI dX6_what_43 fX6_55 (hB.lt (by decide)) (hB.2.1 0 (by decide)) rfl ?_
        refine z_top ((t : Int)) (hN8) ?_
        refine y_callV dX6_what_46 kX6_163 (c_X4_suppose (T := t) hB hC.2.1.1 (by omega) (cpl.Rl hO hC) hC.2.1.2.2.2.1 hC.2.1.2.2.2.2 c_28 (by omega)) (hB.lt (by decide)) (hB.2.1 3 (by decide)) rfl rfl rfl (Nat.le_of_ble_eq_true rfl) ⟨⟨by decide, by decide⟩, by decide, by decide⟩ (fun v46 n46 sh46 I46 P46 hp46 => ?_)
        obtain ⟨rfl, rfl, rfl, rfl, h46⟩ := hp46
        have hr : ∀ a, 17 ≤ a → I46 a = I a := fun a ha => by rw [h46.1.row (a := a) (by omega) (by omega), bWr_ne (by omega)]
        have hV : ∀ k0 w, k0 < 7 → w ≤ t → bV I46 k0 w = (vF (mWr M rc k f v (t : Int)) (t : Int) (rc + 1)) k0 w := fun k0 w h1 h2 => cpl.sup hO hC c_28 h46.1 h46.2.2.1 h1 h2
        have h16 := h46.2.2.1.2
        have hg := cpl.go (q := t) hO hC hr hm1 hV h16 (fun k w hk _ => vF_rng (mWr_rl hO.2.2.1.1 c_28 (by omega)) hk)
        refine z_aload_n dX6_what_49 rfl ?_
        refine y_getR dX6_what_50 fX6_33 (hB.lt (by decide)) (hB.2.1 0 (by decide)) rfl (hB.2.2.1 3) ?_
        refine z_aload dX6_what_53 rfl ?_
        refine z_iload_n dX6_what_55 rfl ?_
        refine z_aload_n dX6_what_56 rfl ?_
        refine y_getI dX6_what_57 fX6_55 (hB.lt (by decide)) (hB.2.1 0 (by decide)) rfl ?_
        refine z_top ((t : Int)) (by rw [h46.1 0 8 (by omega) (by omega), bWr_ne (by omega)]; exact hN8) ?_
        refine y_callV dX6_what_60 kX6_152 (c_X0_grantOf (w := w0) (q := t) hB hMb (by omega) (by omega) hg.1.2.1 hg.1.2.2 (fun w1 h1 => hg.2.1 w1 (by omega)) (fun k w1 h1 h2 => hg.2.2.1 k w1 h1 (by omega)) hg.2.2.2.1.1 hg.2.2.2.1.2.1 hg.2.2.2.1.2.2.1 hg.2.2.2.1.2.2.2) (hB.lt (by decide)) (hB.2.1 17 (by decide)) rfl rfl rfl (Nat.le_of_ble_eq_true rfl) ⟨⟨by decide, by decide⟩, by decide, by decide⟩ (fun v60 n60 sh60 I60 P60 hp60 => ?_)
        obtain ⟨rfl, rfl, rfl, hfr, hok, S, hS, rfl⟩ := hp60
        refine z_top (GRm (mWr M rc k f v (t : Int)) m0 t pc (rc + 1) w0 (7 * t + 7)) ((cpl.gr (D := 7 * w0 + 6) hO hC hr hm1 hV h16 (by omega) (by omega) hS).trans GRm_wr.symm) ?_
        have hB2 := hB.sick (some (ma m0))
        refine z_istore dX6_what_63 (by decide) ?_
        refine z_aload_n dX6_what_65 rfl ?_
        refine y_getR dX6_what_66 fX6_24 (hB2.lt (by decide)) (hB2.2.1 0 (by decide)) rfl (hB2.2.2.1 2) ?_
        refine y_callV dX6_what_69 kX6_166 (c_X4_forgetSupposed hB2) (hB2.lt (by decide)) (hB2.2.1 3 (by decide)) rfl rfl rfl (Nat.le_of_ble_eq_true rfl) ⟨⟨by decide, by decide⟩, by decide, by decide⟩ (fun v69 n69 sh69 I69 P69 hp69 => ?_)
        obtain ⟨rfl, rfl, rfl, rfl, rfl⟩ := hp69
        refine z_iload dX6_what_72 rfl ?_
        refine y_ireturn dX6_what_74 rfl ?_
        rw [if_pos ⟨hm0, c_17, c_28⟩]
        exact kP.wt hO hB hC h46.1 h46.2.1 hfr hok
      · have c_28 := bI_0 c_28
        refine z_iconst dX6_what_31 ?_
        refine y_ireturn dX6_what_32 rfl ?_
        rw [if_neg (fun h => by first | exact c_28 h.2.2 | exact c_17 h.2.1)]
        exact kP.same hB hC
  · refine yC_of (by decide) (Nat.le_of_ble_eq_true rfl) ?_
    refine z_aload_n dX6_what_0 rfl ?_
    refine z_iload_n dX6_what_1 rfl ?_
    refine y_callV dX6_what_2 kX6_61 (c_X6_memberAt_no hB hN6 (by omega) hm hm0) (hB.lt (by decide)) (hB.2.1 0 (by decide)) rfl rfl rfl (Nat.le_of_ble_eq_true rfl) ⟨⟨by decide, by decide⟩, by decide, by decide⟩ (fun v2 n2 sh2 I2 P2 hp2 => ?_)
    obtain ⟨rfl, rfl, rfl, rfl, rfl⟩ := hp2
    refine z_astoreN dX6_what_5 (by decide) ?_
    refine z_aloadN dX6_what_7 rfl ?_
    refine z_ifnullN 31 dX6_what_9 (by decide) ?_
    refine z_iconst dX6_what_31 ?_
    refine y_ireturn dX6_what_32 rfl ?_
    rw [if_neg (fun h => hm0 h.1)]
    exact kP.same hB hC
end BAs
