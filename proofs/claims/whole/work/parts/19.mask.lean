section MQ
variable {l : Launch} {E : zEnv} {n : Nat} {sh : Nat → Nat × Nat} {I : Nat → Nat → Int} {P : Nat → Nat → Option Nat}
set_option maxHeartbeats 4000000 in
set_option maxRecDepth 100000 in
theorem c_X7_grant (hM : yM n sh P) {t mc rc pc : Nat} (ht : I 24 0 = (t : Int)) (ht3 : t ≤ 300) (hmc : I 24 1 = (mc : Int)) (hmc4 : mc ≤ 40) (hrc : I 24 2 = (rc : Int)) (hrc2 : rc ≤ 200) (hpc : I 24 3 = (pc : Int)) (hpc2 : pc ≤ 200) (hR : yRl I 29 rc) (hpap : mPap I pc t) (hjo : ∀ i, i < mc → 0 ≤ I 27 i ∧ I 27 i ≤ (t : Int)) (hpd : ∀ i, 0 ≤ I 28 i) (hps : ∀ m, m < mc → sm (pd I m) 301 ≤ 1000000) {m w q : Int} (hm : (-2147483648 ≤ m ∧ m ≤ 2147483647)) (hw : (-2147483648 ≤ w ∧ w ≤ 2147483647)) (hq : (-2147483648 ≤ q ∧ q ≤ 2147483647)) : yC l E jX7_grant (rm 4 96) [.ref (zb E + 24), .int (iI m), .int (iI w), .int (iI q)] n sh I P (yS (some (.int (iI (if ((0 ≤ m ∧ m < (mc : Int)) ∧ (0 ≤ w ∧ w ≤ (t : Int)) ∧ (0 ≤ q ∧ q ≤ (t : Int))) then GRm I m.toNat q.toNat pc rc w.toNat (7 * t + 7) else -1)))) n sh P (fun I' => scF I I' rc)) := by
  refine yC_of (by decide) (Nat.le_of_ble_eq_true rfl) ?_
  refine z_aload_n dX7_grant_0 rfl ?_
  refine z_iload_n dX7_grant_1 rfl ?_
  refine y_callV dX7_grant_2 kX7_132 (c_X7_isMember hM (by omega) (by omega)) (hM.lt (by decide)) (hM.2.1 24 (by decide)) rfl rfl rfl (Nat.le_of_ble_eq_true rfl) ⟨⟨by decide, by decide⟩, by decide, by decide⟩ (fun v2 n2 sh2 I2 P2 hp2 => ?_)
  obtain ⟨rfl, rfl, rfl, rfl, rfl⟩ := hp2
  refine z_if_eq 24 dX7_grant_5 (by decide) (bI_rng _) (fun c_5 => ?_) (fun c_5 => ?_)
  · have c_5 := bI_0 c_5
    refine z_iconst dX7_grant_24 ?_
    refine y_ireturn dX7_grant_25 rfl ?_
    rw [if_neg (by omega)]
    exact ⟨rfl, rfl, rfl, rfl, scF.rf⟩
  · have c_5 := bI_1 c_5
    refine z_aload_n dX7_grant_8 rfl ?_
    refine z_iload_n dX7_grant_9 rfl ?_
    refine y_callV dX7_grant_10 kX7_164 (c_X7_isWeek hM (by omega) (by omega)) (hM.lt (by decide)) (hM.2.1 24 (by decide)) rfl rfl rfl (Nat.le_of_ble_eq_true rfl) ⟨⟨by decide, by decide⟩, by decide, by decide⟩ (fun v10 n10 sh10 I10 P10 hp10 => ?_)
    obtain ⟨rfl, rfl, rfl, rfl, rfl⟩ := hp10
    refine z_if_eq 24 dX7_grant_13 (by decide) (bI_rng _) (fun c_13 => ?_) (fun c_13 => ?_)
    · have c_13 := bI_0 c_13
      refine z_iconst dX7_grant_24 ?_
      refine y_ireturn dX7_grant_25 rfl ?_
      rw [if_neg (by omega)]
      exact ⟨rfl, rfl, rfl, rfl, scF.rf⟩
    · have c_13 := bI_1 c_13
      refine z_aload_n dX7_grant_16 rfl ?_
      refine z_iload_n dX7_grant_17 rfl ?_
      refine y_callV dX7_grant_18 kX7_164 (c_X7_isWeek hM (by omega) (by omega)) (hM.lt (by decide)) (hM.2.1 24 (by decide)) rfl rfl rfl (Nat.le_of_ble_eq_true rfl) ⟨⟨by decide, by decide⟩, by decide, by decide⟩ (fun v18 n18 sh18 I18 P18 hp18 => ?_)
      obtain ⟨rfl, rfl, rfl, rfl, rfl⟩ := hp18
      refine z_if_ne 26 dX7_grant_21 (by decide) (bI_rng _) (fun c_21 => ?_) (fun c_21 => ?_)
      · have c_21 := bI_1 c_21
        obtain ⟨m0, rfl⟩ : ∃ m0 : Nat, m = m0 := ⟨m.toNat, by omega⟩
        obtain ⟨w0, rfl⟩ : ∃ w0 : Nat, w = w0 := ⟨w.toNat, by omega⟩
        obtain ⟨q0, rfl⟩ : ∃ q0 : Nat, q = q0 := ⟨q.toNat, by omega⟩
        simp only [Int.toNat_natCast]
        have hj0 := hjo m0 (by omega)
        refine z_aload_n dX7_grant_26 rfl ?_
        refine z_iload_n dX7_grant_27 rfl ?_
        refine z_aload_n dX7_grant_28 rfl ?_
        refine y_getI dX7_grant_29 fX7_137 (hM.lt (by decide)) (hM.2.1 24 (by decide)) rfl ?_
        refine z_top ((rc : Int)) (hrc) ?_
        refine y_callV dX7_grant_32 kX7_140 (c_X7_know (I := I) (q := (q0 : Int)) (many := rc) hM (by omega) (by omega) hR (by omega)) (hM.lt (by decide)) (hM.2.1 24 (by decide)) rfl rfl rfl (Nat.le_of_ble_eq_true rfl) ⟨⟨by decide, by decide⟩, by decide, by decide⟩ (fun v32 n32 sh32 I32 P32 hp32 => ?_)
        obtain ⟨rfl, rfl, rfl, rfl, h32⟩ := hp32
        refine z_aload_n dX7_grant_35 rfl ?_
        refine z_iload_n dX7_grant_36 rfl ?_
        refine y_callV dX7_grant_37 kX7_154 (c_X7_go (I := I32) (m := m0) (t := t) (q := q0) (j := jn I m0) (pc := pc) hM (by omega) (by rw [kn_eq h32 (by decide) (by decide)]; exact ht) ht3 (kn_q h32) (by omega) (by rw [kn_eq h32 (by decide) (by decide)]; exact hpc) hpc2 (by rw [kn_eq h32 (by decide) (by omega)]; unfold jn; omega) (by unfold jn; omega) (kn_pap h32 hpap) (fun k w h1 h2 => by rw [kn_V h32 ht h1 h2]; exact vF_rng hR h1) (fun w hw => by rw [kn_ow h32 ht hw]; exact arr_ok hR (by omega) hpd (hps m0 (by omega)))) (hM.lt (by decide)) (hM.2.1 24 (by decide)) rfl rfl rfl (Nat.le_of_ble_eq_true rfl) ⟨⟨by decide, by decide⟩, by decide, by decide⟩ (fun v37 n37 sh37 I37 P37 hp37 => ?_)
        obtain ⟨rfl, rfl, rfl, rfl, h37⟩ := hp37
        have hs := kn_go h32 ht h37
        refine z_aload_n dX7_grant_40 rfl ?_
        refine y_getR dX7_grant_41 fX7_86 (hM.lt (by decide)) (hM.2.1 24 (by decide)) rfl (hM.2.2 31) ?_
        refine z_iload_n dX7_grant_44 rfl ?_
        refine y_ialoadJ (w0) dX7_grant_45 (hM.lt (by decide)) (hM.2.1 50 (by decide)) (by omega) (by decide) ?_
        rw [hs.2.2 w0 (by omega)]
        refine y_ireturn dX7_grant_46 rfl ?_
        rw [if_pos (by omega)]
        exact ⟨rfl, rfl, rfl, rfl, fun a b h1 h2 h3 => hs.1 a b h1 h2⟩
      · have c_21 := bI_0 c_21
        refine z_iconst dX7_grant_24 ?_
        refine y_ireturn dX7_grant_25 rfl ?_
        rw [if_neg (by omega)]
        exact ⟨rfl, rfl, rfl, rfl, scF.rf⟩
set_option maxHeartbeats 4000000 in
set_option maxRecDepth 100000 in
theorem c_X7_day (hM : yM n sh P) {t mc rc pc : Nat} (ht : I 24 0 = (t : Int)) (ht3 : t ≤ 300) (hmc : I 24 1 = (mc : Int)) (hmc4 : mc ≤ 40) (hrc : I 24 2 = (rc : Int)) (hrc2 : rc ≤ 200) (hpc : I 24 3 = (pc : Int)) (hpc2 : pc ≤ 200) (hR : yRl I 29 rc) (hpap : mPap I pc t) (hjo : ∀ i, i < mc → 0 ≤ I 27 i ∧ I 27 i ≤ (t : Int)) (hpd : ∀ i, 0 ≤ I 28 i) (hps : ∀ m, m < mc → sm (pd I m) 301 ≤ 1000000) {m d q : Int} (hm : (-2147483648 ≤ m ∧ m ≤ 2147483647)) (hd : (-2147483648 ≤ d ∧ d ≤ 2147483647)) (hq : (-2147483648 ≤ q ∧ q ≤ 2147483647)) : yC l E jX7_day (rm 4 96) [.ref (zb E + 24), .int (iI m), .int (iI d), .int (iI q)] n sh I P (yS (some (.int (iI (if ((0 ≤ m ∧ m < (mc : Int)) ∧ (0 ≤ d ∧ d ≤ 7 * (t : Int) + 6) ∧ (0 ≤ q ∧ q ≤ (t : Int))) then WHm I m.toNat q.toNat pc rc d.toNat else -1)))) n sh P (fun I' => scF I I' rc)) := by
  refine yC_of (by decide) (Nat.le_of_ble_eq_true rfl) ?_
  refine z_aload_n dX7_day_0 rfl ?_
  refine z_iload_n dX7_day_1 rfl ?_
  refine y_callV dX7_day_2 kX7_132 (c_X7_isMember hM (by omega) (by omega)) (hM.lt (by decide)) (hM.2.1 24 (by decide)) rfl rfl rfl (Nat.le_of_ble_eq_true rfl) ⟨⟨by decide, by decide⟩, by decide, by decide⟩ (fun v2 n2 sh2 I2 P2 hp2 => ?_)
  obtain ⟨rfl, rfl, rfl, rfl, rfl⟩ := hp2
  refine z_if_eq 34 dX7_day_5 (by decide) (bI_rng _) (fun c_5 => ?_) (fun c_5 => ?_)
  · have c_5 := bI_0 c_5
    refine z_iconst dX7_day_34 ?_
    refine y_ireturn dX7_day_35 rfl ?_
    rw [if_neg (by omega)]
    exact ⟨rfl, rfl, rfl, rfl, scF.rf⟩
  · have c_5 := bI_1 c_5
    refine z_iload_n dX7_day_8 rfl ?_
    refine z_iconst dX7_day_9 ?_
    refine z_bipush dX7_day_10 rfl ?_
    refine z_aload_n dX7_day_12 rfl ?_
    refine y_getI dX7_day_13 fX7_100 (hM.lt (by decide)) (hM.2.1 24 (by decide)) rfl ?_
    refine z_top ((t : Int)) (ht) ?_
    refine z_imul dX7_day_16 ?_
    refine z_bipush dX7_day_17 rfl ?_
    refine z_iadd dX7_day_19 ?_
    refine y_callS dX7_day_20 kX7_96 (c_X7_in hd (by omega) (by omega)) rfl rfl (Nat.le_of_ble_eq_true rfl) ⟨⟨by decide, by decide⟩, by decide, by decide⟩ (fun v20 n20 sh20 I20 P20 hp20 => ?_)
    obtain ⟨rfl, rfl, rfl, rfl, rfl⟩ := hp20
    refine z_if_eq 34 dX7_day_23 (by decide) (bI_rng _) (fun c_23 => ?_) (fun c_23 => ?_)
    · have c_23 := bI_0 c_23
      refine z_iconst dX7_day_34 ?_
      refine y_ireturn dX7_day_35 rfl ?_
      rw [if_neg (by omega)]
      exact ⟨rfl, rfl, rfl, rfl, scF.rf⟩
    · have c_23 := bI_1 c_23
      refine z_aload_n dX7_day_26 rfl ?_
      refine z_iload_n dX7_day_27 rfl ?_
      refine y_callV dX7_day_28 kX7_164 (c_X7_isWeek hM (by omega) (by omega)) (hM.lt (by decide)) (hM.2.1 24 (by decide)) rfl rfl rfl (Nat.le_of_ble_eq_true rfl) ⟨⟨by decide, by decide⟩, by decide, by decide⟩ (fun v28 n28 sh28 I28 P28 hp28 => ?_)
      obtain ⟨rfl, rfl, rfl, rfl, rfl⟩ := hp28
      refine z_if_ne 36 dX7_day_31 (by decide) (bI_rng _) (fun c_31 => ?_) (fun c_31 => ?_)
      · have c_31 := bI_1 c_31
        obtain ⟨m0, rfl⟩ : ∃ m0 : Nat, m = m0 := ⟨m.toNat, by omega⟩
        obtain ⟨d0, rfl⟩ : ∃ d0 : Nat, d = d0 := ⟨d.toNat, by omega⟩
        obtain ⟨q0, rfl⟩ : ∃ q0 : Nat, q = q0 := ⟨q.toNat, by omega⟩
        simp only [Int.toNat_natCast]
        have hj0 := hjo m0 (by omega)
        refine z_aload_n dX7_day_36 rfl ?_
        refine z_iload_n dX7_day_37 rfl ?_
        refine z_aload_n dX7_day_38 rfl ?_
        refine y_getI dX7_day_39 fX7_137 (hM.lt (by decide)) (hM.2.1 24 (by decide)) rfl ?_
        refine z_top ((rc : Int)) (hrc) ?_
        refine y_callV dX7_day_42 kX7_140 (c_X7_know (I := I) (q := (q0 : Int)) (many := rc) hM (by omega) (by omega) hR (by omega)) (hM.lt (by decide)) (hM.2.1 24 (by decide)) rfl rfl rfl (Nat.le_of_ble_eq_true rfl) ⟨⟨by decide, by decide⟩, by decide, by decide⟩ (fun v42 n42 sh42 I42 P42 hp42 => ?_)
        obtain ⟨rfl, rfl, rfl, rfl, h42⟩ := hp42
        refine z_aload_n dX7_day_45 rfl ?_
        refine z_iload_n dX7_day_46 rfl ?_
        refine y_callV dX7_day_47 kX7_154 (c_X7_go (I := I42) (m := m0) (t := t) (q := q0) (j := jn I m0) (pc := pc) hM (by omega) (by rw [kn_eq h42 (by decide) (by decide)]; exact ht) ht3 (kn_q h42) (by omega) (by rw [kn_eq h42 (by decide) (by decide)]; exact hpc) hpc2 (by rw [kn_eq h42 (by decide) (by omega)]; unfold jn; omega) (by unfold jn; omega) (kn_pap h42 hpap) (fun k w h1 h2 => by rw [kn_V h42 ht h1 h2]; exact vF_rng hR h1) (fun w hw => by rw [kn_ow h42 ht hw]; exact arr_ok hR (by omega) hpd (hps m0 (by omega)))) (hM.lt (by decide)) (hM.2.1 24 (by decide)) rfl rfl rfl (Nat.le_of_ble_eq_true rfl) ⟨⟨by decide, by decide⟩, by decide, by decide⟩ (fun v47 n47 sh47 I47 P47 hp47 => ?_)
        obtain ⟨rfl, rfl, rfl, rfl, h47⟩ := hp47
        have hs := kn_go h42 ht h47
        refine z_aload_n dX7_day_50 rfl ?_
        refine y_getR dX7_day_51 fX7_73 (hM.lt (by decide)) (hM.2.1 24 (by decide)) rfl (hM.2.2 27) ?_
        refine z_iload_n dX7_day_54 rfl ?_
        refine y_ialoadJ (d0) dX7_day_55 (hM.lt (by decide)) (hM.2.1 46 (by decide)) (by omega) (by decide) ?_
        rw [hs.2.1 d0 (by omega)]
        refine y_ireturn dX7_day_56 rfl ?_
        rw [if_pos (by omega)]
        exact ⟨rfl, rfl, rfl, rfl, fun a b h1 h2 h3 => hs.1 a b h1 h2⟩
      · have c_31 := bI_0 c_31
        refine z_iconst dX7_day_34 ?_
        refine y_ireturn dX7_day_35 rfl ?_
        rw [if_neg (by omega)]
        exact ⟨rfl, rfl, rfl, rfl, scF.rf⟩
set_option maxHeartbeats 4000000 in
set_option maxRecDepth 100000 in
theorem c_X7_arrears (hM : yM n sh P) {t mc rc pc : Nat} (ht : I 24 0 = (t : Int)) (ht3 : t ≤ 300) (hmc : I 24 1 = (mc : Int)) (hmc4 : mc ≤ 40) (hrc : I 24 2 = (rc : Int)) (hrc2 : rc ≤ 200) (hpc : I 24 3 = (pc : Int)) (hpc2 : pc ≤ 200) (hR : yRl I 29 rc) (hpap : mPap I pc t) (hjo : ∀ i, i < mc → 0 ≤ I 27 i ∧ I 27 i ≤ (t : Int)) (hpd : ∀ i, 0 ≤ I 28 i) (hps : ∀ m, m < mc → sm (pd I m) 301 ≤ 1000000) {m w q : Int} (hm : (-2147483648 ≤ m ∧ m ≤ 2147483647)) (hw : (-2147483648 ≤ w ∧ w ≤ 2147483647)) (hq : (-2147483648 ≤ q ∧ q ≤ 2147483647)) : yC l E jX7_arrears (rm 3 71) [.ref (zb E + 24), .int (iI m), .int (iI w), .int (iI q)] n sh I P (yS (some (.int (iI (if ((0 ≤ m ∧ m < (mc : Int)) ∧ (0 ≤ w ∧ w ≤ (t : Int)) ∧ (0 ≤ q ∧ q ≤ (t : Int))) then arr (vF I q.toNat rc 0) (pd I m.toNat) (jn I m.toNat) w.toNat q.toNat else -1000000)))) n sh P (fun I' => scF I I' rc)) := by
  refine yC_of (by decide) (Nat.le_of_ble_eq_true rfl) ?_
  refine z_aload_n dX7_arrears_0 rfl ?_
  refine z_iload_n dX7_arrears_1 rfl ?_
  refine y_callV dX7_arrears_2 kX7_132 (c_X7_isMember hM (by omega) (by omega)) (hM.lt (by decide)) (hM.2.1 24 (by decide)) rfl rfl rfl (Nat.le_of_ble_eq_true rfl) ⟨⟨by decide, by decide⟩, by decide, by decide⟩ (fun v2 n2 sh2 I2 P2 hp2 => ?_)
  obtain ⟨rfl, rfl, rfl, rfl, rfl⟩ := hp2
  refine z_if_eq 24 dX7_arrears_5 (by decide) (bI_rng _) (fun c_5 => ?_) (fun c_5 => ?_)
  · have c_5 := bI_0 c_5
    refine z_ldc _ dX7_arrears_24 qX7_136 ?_
    refine y_ireturn dX7_arrears_26 rfl ?_
    rw [if_neg (by omega)]
    exact ⟨rfl, rfl, rfl, rfl, scF.rf⟩
  · have c_5 := bI_1 c_5
    refine z_aload_n dX7_arrears_8 rfl ?_
    refine z_iload_n dX7_arrears_9 rfl ?_
    refine y_callV dX7_arrears_10 kX7_164 (c_X7_isWeek hM (by omega) (by omega)) (hM.lt (by decide)) (hM.2.1 24 (by decide)) rfl rfl rfl (Nat.le_of_ble_eq_true rfl) ⟨⟨by decide, by decide⟩, by decide, by decide⟩ (fun v10 n10 sh10 I10 P10 hp10 => ?_)
    obtain ⟨rfl, rfl, rfl, rfl, rfl⟩ := hp10
    refine z_if_eq 24 dX7_arrears_13 (by decide) (bI_rng _) (fun c_13 => ?_) (fun c_13 => ?_)
    · have c_13 := bI_0 c_13
      refine z_ldc _ dX7_arrears_24 qX7_136 ?_
      refine y_ireturn dX7_arrears_26 rfl ?_
      rw [if_neg (by omega)]
      exact ⟨rfl, rfl, rfl, rfl, scF.rf⟩
    · have c_13 := bI_1 c_13
      refine z_aload_n dX7_arrears_16 rfl ?_
      refine z_iload_n dX7_arrears_17 rfl ?_
      refine y_callV dX7_arrears_18 kX7_164 (c_X7_isWeek hM (by omega) (by omega)) (hM.lt (by decide)) (hM.2.1 24 (by decide)) rfl rfl rfl (Nat.le_of_ble_eq_true rfl) ⟨⟨by decide, by decide⟩, by decide, by decide⟩ (fun v18 n18 sh18 I18 P18 hp18 => ?_)
      obtain ⟨rfl, rfl, rfl, rfl, rfl⟩ := hp18
      refine z_if_ne 27 dX7_arrears_21 (by decide) (bI_rng _) (fun c_21 => ?_) (fun c_21 => ?_)
      · have c_21 := bI_1 c_21
        obtain ⟨m0, rfl⟩ : ∃ m0 : Nat, m = m0 := ⟨m.toNat, by omega⟩
        obtain ⟨w0, rfl⟩ : ∃ w0 : Nat, w = w0 := ⟨w.toNat, by omega⟩
        obtain ⟨q0, rfl⟩ : ∃ q0 : Nat, q = q0 := ⟨q.toNat, by omega⟩
        simp only [Int.toNat_natCast]
        have hj0 := hjo m0 (by omega)
        refine z_aload_n dX7_arrears_27 rfl ?_
        refine z_iload_n dX7_arrears_28 rfl ?_
        refine z_aload_n dX7_arrears_29 rfl ?_
        refine y_getI dX7_arrears_30 fX7_137 (hM.lt (by decide)) (hM.2.1 24 (by decide)) rfl ?_
        refine z_top ((rc : Int)) (hrc) ?_
        refine y_callV dX7_arrears_33 kX7_140 (c_X7_know (I := I) (q := (q0 : Int)) (many := rc) hM (by omega) (by omega) hR (by omega)) (hM.lt (by decide)) (hM.2.1 24 (by decide)) rfl rfl rfl (Nat.le_of_ble_eq_true rfl) ⟨⟨by decide, by decide⟩, by decide, by decide⟩ (fun v33 n33 sh33 I33 P33 hp33 => ?_)
        obtain ⟨rfl, rfl, rfl, rfl, h33⟩ := hp33
        refine z_aload_n dX7_arrears_36 rfl ?_
        refine z_iload_n dX7_arrears_37 rfl ?_
        refine z_iload_n dX7_arrears_38 rfl ?_
        refine y_callV dX7_arrears_39 kX7_118 (c_X7_owes (I := I33) (m := m0) (w := w0) (q := q0) (j := jn I m0) hM (by omega) (by omega) (kn_q h33) (by omega) (by rw [kn_eq h33 (by decide) (by omega)]; unfold jn; omega) (by unfold jn; omega)) (hM.lt (by decide)) (hM.2.1 24 (by decide)) rfl rfl rfl (Nat.le_of_ble_eq_true rfl) ⟨⟨by decide, by decide⟩, by decide, by decide⟩ (fun v39 n39 sh39 I39 P39 hp39 => ?_)
        obtain ⟨rfl, rfl, rfl, rfl, rfl⟩ := hp39
        rw [kn_ow h33 ht (by omega)]
        refine y_ireturn dX7_arrears_42 rfl ?_
        rw [if_pos (by omega)]
        exact ⟨rfl, rfl, rfl, rfl, fun a b h1 h2 h3 => kn_eq h33 (by omega) h2⟩
      · have c_21 := bI_0 c_21
        refine z_ldc _ dX7_arrears_24 qX7_136 ?_
        refine y_ireturn dX7_arrears_26 rfl ?_
        rw [if_neg (by omega)]
        exact ⟨rfl, rfl, rfl, rfl, scF.rf⟩
set_option maxHeartbeats 4000000 in
set_option maxRecDepth 100000 in
theorem c_X7_out (hM : yM n sh P) {t mc rc pc : Nat} (ht : I 24 0 = (t : Int)) (ht3 : t ≤ 300) (hmc : I 24 1 = (mc : Int)) (hmc4 : mc ≤ 40) (hrc : I 24 2 = (rc : Int)) (hrc2 : rc ≤ 200) (hpc : I 24 3 = (pc : Int)) (hpc2 : pc ≤ 200) (hR : yRl I 29 rc) (hpap : mPap I pc t) (hjo : ∀ i, i < mc → 0 ≤ I 27 i ∧ I 27 i ≤ (t : Int)) (hpd : ∀ i, 0 ≤ I 28 i) (hps : ∀ m, m < mc → sm (pd I m) 301 ≤ 1000000) {m w q : Int} (hm : (-2147483648 ≤ m ∧ m ≤ 2147483647)) (hw : (-2147483648 ≤ w ∧ w ≤ 2147483647)) (hq : (-2147483648 ≤ q ∧ q ≤ 2147483647)) : yC l E jX7_out (rm 3 71) [.ref (zb E + 24), .int (iI m), .int (iI w), .int (iI q)] n sh I P (yS (some (.int (iI (bI (((0 ≤ m ∧ m < (mc : Int)) ∧ (0 ≤ w ∧ w ≤ (t : Int)) ∧ (0 ≤ q ∧ q ≤ (t : Int))) ∧ outB (vF I q.toNat rc) (pd I m.toNat) (jn I m.toNat) q.toNat w.toNat = true))))) n sh P (fun I' => scF I I' rc)) := by
  refine yC_of (by decide) (Nat.le_of_ble_eq_true rfl) ?_
  refine z_aload_n dX7_out_0 rfl ?_
  refine z_iload_n dX7_out_1 rfl ?_
  refine y_callV dX7_out_2 kX7_132 (c_X7_isMember hM (by omega) (by omega)) (hM.lt (by decide)) (hM.2.1 24 (by decide)) rfl rfl rfl (Nat.le_of_ble_eq_true rfl) ⟨⟨by decide, by decide⟩, by decide, by decide⟩ (fun v2 n2 sh2 I2 P2 hp2 => ?_)
  obtain ⟨rfl, rfl, rfl, rfl, rfl⟩ := hp2
  refine z_if_eq 24 dX7_out_5 (by decide) (bI_rng _) (fun c_5 => ?_) (fun c_5 => ?_)
  · have c_5 := bI_0 c_5
    refine z_iconst dX7_out_24 ?_
    refine y_zreturn dX7_out_25 rfl (by decide) ?_
    rw [bI_f (fun h => by omega)]
    exact ⟨rfl, rfl, rfl, rfl, scF.rf⟩
  · have c_5 := bI_1 c_5
    refine z_aload_n dX7_out_8 rfl ?_
    refine z_iload_n dX7_out_9 rfl ?_
    refine y_callV dX7_out_10 kX7_164 (c_X7_isWeek hM (by omega) (by omega)) (hM.lt (by decide)) (hM.2.1 24 (by decide)) rfl rfl rfl (Nat.le_of_ble_eq_true rfl) ⟨⟨by decide, by decide⟩, by decide, by decide⟩ (fun v10 n10 sh10 I10 P10 hp10 => ?_)
    obtain ⟨rfl, rfl, rfl, rfl, rfl⟩ := hp10
    refine z_if_eq 24 dX7_out_13 (by decide) (bI_rng _) (fun c_13 => ?_) (fun c_13 => ?_)
    · have c_13 := bI_0 c_13
      refine z_iconst dX7_out_24 ?_
      refine y_zreturn dX7_out_25 rfl (by decide) ?_
      rw [bI_f (fun h => by omega)]
      exact ⟨rfl, rfl, rfl, rfl, scF.rf⟩
    · have c_13 := bI_1 c_13
      refine z_aload_n dX7_out_16 rfl ?_
      refine z_iload_n dX7_out_17 rfl ?_
      refine y_callV dX7_out_18 kX7_164 (c_X7_isWeek hM (by omega) (by omega)) (hM.lt (by decide)) (hM.2.1 24 (by decide)) rfl rfl rfl (Nat.le_of_ble_eq_true rfl) ⟨⟨by decide, by decide⟩, by decide, by decide⟩ (fun v18 n18 sh18 I18 P18 hp18 => ?_)
      obtain ⟨rfl, rfl, rfl, rfl, rfl⟩ := hp18
      refine z_if_ne 26 dX7_out_21 (by decide) (bI_rng _) (fun c_21 => ?_) (fun c_21 => ?_)
      · have c_21 := bI_1 c_21
        obtain ⟨m0, rfl⟩ : ∃ m0 : Nat, m = m0 := ⟨m.toNat, by omega⟩
        obtain ⟨w0, rfl⟩ : ∃ w0 : Nat, w = w0 := ⟨w.toNat, by omega⟩
        obtain ⟨q0, rfl⟩ : ∃ q0 : Nat, q = q0 := ⟨q.toNat, by omega⟩
        simp only [Int.toNat_natCast]
        have hj0 := hjo m0 (by omega)
        refine z_aload_n dX7_out_26 rfl ?_
        refine z_iload_n dX7_out_27 rfl ?_
        refine z_aload_n dX7_out_28 rfl ?_
        refine y_getI dX7_out_29 fX7_137 (hM.lt (by decide)) (hM.2.1 24 (by decide)) rfl ?_
        refine z_top ((rc : Int)) (hrc) ?_
        refine y_callV dX7_out_32 kX7_140 (c_X7_know (I := I) (q := (q0 : Int)) (many := rc) hM (by omega) (by omega) hR (by omega)) (hM.lt (by decide)) (hM.2.1 24 (by decide)) rfl rfl rfl (Nat.le_of_ble_eq_true rfl) ⟨⟨by decide, by decide⟩, by decide, by decide⟩ (fun v32 n32 sh32 I32 P32 hp32 => ?_)
        obtain ⟨rfl, rfl, rfl, rfl, h32⟩ := hp32
        refine z_aload_n dX7_out_35 rfl ?_
        refine z_iload_n dX7_out_36 rfl ?_
        refine z_iload_n dX7_out_37 rfl ?_
        refine y_callV dX7_out_38 kX7_124 (c_X7_isOut (I := I32) (m := m0) (w := w0) (q := q0) (j := jn I m0) hM (by omega) (by omega) (kn_q h32) (by omega) (by rw [kn_eq h32 (by decide) (by omega)]; unfold jn; omega) (by unfold jn; omega) (by rw [kn_ow h32 ht (by omega)]; exact arr_ok hR (by omega) hpd (hps m0 (by omega))) (by have h := kn_V h32 ht (k := 6) (w := w0) (by decide) (by omega); unfold mV at h; rw [h]; exact vF_rng hR (by decide)) (by have h := kn_V h32 ht (k := 0) (w := w0) (by decide) (by omega); unfold mV at h; rw [show 301 * 0 + w0 = w0 by omega] at h; rw [h]; exact vF_rng hR (by decide))) (hM.lt (by decide)) (hM.2.1 24 (by decide)) rfl rfl rfl (Nat.le_of_ble_eq_true rfl) ⟨⟨by decide, by decide⟩, by decide, by decide⟩ (fun v38 n38 sh38 I38 P38 hp38 => ?_)
        obtain ⟨rfl, rfl, rfl, rfl, rfl⟩ := hp38
        have eo : bI (I32 45 (301 * 6 + w0) * I32 45 w0 < sOw I32 m0 w0 q0 (jn I m0)) = bI (outB (vF I q0 rc) (pd I m0) (jn I m0) q0 w0 = true) := by
          have g6 := kn_V h32 ht (k := 6) (w := w0) (by decide) (by omega)
          have g0 := kn_V h32 ht (k := 0) (w := w0) (by decide) (by omega)
          unfold mV at g6 g0
          rw [show 301 * 0 + w0 = w0 by omega] at g0
          rw [kn_ow h32 ht (by omega), g6, g0]
          exact bI_cong (by unfold outB; rw [decide_eq_true_eq])
        rw [eo]
        refine y_zreturn dX7_out_41 rfl (bI_or _) ?_
        rw [bI_cong (show _ ↔ _ from ⟨fun h => h.2, fun h => ⟨by omega, h⟩⟩)]
        exact ⟨rfl, rfl, rfl, rfl, fun a b h1 h2 h3 => kn_eq h32 (by omega) h2⟩
      · have c_21 := bI_0 c_21
        refine z_iconst dX7_out_24 ?_
        refine y_zreturn dX7_out_25 rfl (by decide) ?_
        rw [bI_f (fun h => by omega)]
        exact ⟨rfl, rfl, rfl, rfl, scF.rf⟩
def mPy (I : Nat → Nat → Int) (m t : Nat) (s : Int) : Nat → Nat → Int := zup I 28 (301 * m + t) (I 28 (301 * m + t) + s)
set_option maxHeartbeats 4000000 in
set_option maxRecDepth 100000 in
theorem c_X7_pay (hM : yM n sh P) {t mc rc pc : Nat} (ht : I 24 0 = (t : Int)) (ht3 : t ≤ 300) (hmc : I 24 1 = (mc : Int)) (hmc4 : mc ≤ 40) (hrc : I 24 2 = (rc : Int)) (hrc2 : rc ≤ 200) (hpc : I 24 3 = (pc : Int)) (hpc2 : pc ≤ 200) (hR : yRl I 29 rc) (hpap : mPap I pc t) (hjo : ∀ i, i < mc → 0 ≤ I 27 i ∧ I 27 i ≤ (t : Int)) (hpd : ∀ i, 0 ≤ I 28 i) (hps : ∀ m, m < mc → sm (pd I m) 301 ≤ 1000000) {m s : Int} (hm : (-2147483648 ≤ m ∧ m ≤ 2147483647)) (hs0 : (-2147483648 ≤ s ∧ s ≤ 2147483647)) : yC l E jX7_pay (rm 3 71) [.ref (zb E + 24), .int (iI m), .int (iI s)] n sh I P (yS (some (.int (iI (if ((0 ≤ m ∧ m < (mc : Int)) ∧ (1 ≤ s ∧ s ≤ 1000)) then arr (vF I t rc 0) (pd (mPy I m.toNat t s) m.toNat) (jn I m.toNat) t t else -1000000)))) n sh P (fun I' => scF (if ((0 ≤ m ∧ m < (mc : Int)) ∧ (1 ≤ s ∧ s ≤ 1000)) then mPy I m.toNat t s else I) I' rc)) := by
  refine yC_of (by decide) (Nat.le_of_ble_eq_true rfl) ?_
  refine z_aload_n dX7_pay_0 rfl ?_
  refine z_iload_n dX7_pay_1 rfl ?_
  refine y_callV dX7_pay_2 kX7_132 (c_X7_isMember hM (by omega) (by omega)) (hM.lt (by decide)) (hM.2.1 24 (by decide)) rfl rfl rfl (Nat.le_of_ble_eq_true rfl) ⟨⟨by decide, by decide⟩, by decide, by decide⟩ (fun v2 n2 sh2 I2 P2 hp2 => ?_)
  obtain ⟨rfl, rfl, rfl, rfl, rfl⟩ := hp2
  refine z_if_eq 19 dX7_pay_5 (by decide) (bI_rng _) (fun c_5 => ?_) (fun c_5 => ?_)
  · have c_5 := bI_0 c_5
    refine z_ldc _ dX7_pay_19 qX7_136 ?_
    refine y_ireturn dX7_pay_21 rfl ?_
    rw [if_neg (by omega), if_neg (by omega)]
    exact ⟨rfl, rfl, rfl, rfl, scF.rf⟩
  · have c_5 := bI_1 c_5
    refine z_iload_n dX7_pay_8 rfl ?_
    refine z_iconst dX7_pay_9 ?_
    refine z_sipush dX7_pay_10 rfl ?_
    refine y_callS dX7_pay_13 kX7_96 (c_X7_in hs0 (by omega) (by omega)) rfl rfl (Nat.le_of_ble_eq_true rfl) ⟨⟨by decide, by decide⟩, by decide, by decide⟩ (fun v13 n13 sh13 I13 P13 hp13 => ?_)
    obtain ⟨rfl, rfl, rfl, rfl, rfl⟩ := hp13
    refine z_if_ne 22 dX7_pay_16 (by decide) (bI_rng _) (fun c_16 => ?_) (fun c_16 => ?_)
    · have c_16 := bI_1 c_16
      obtain ⟨m0, rfl⟩ : ∃ m0 : Nat, m = m0 := ⟨m.toNat, by omega⟩
      simp only [Int.toNat_natCast]
      have hj0 := hjo m0 (by omega)
      refine z_aload_n dX7_pay_22 rfl ?_
      refine y_getR dX7_pay_23 fX7_19 (hM.lt (by decide)) (hM.2.1 24 (by decide)) rfl (hM.2.2 8) ?_
      refine z_sipush dX7_pay_26 rfl ?_
      refine z_iload_n dX7_pay_29 rfl ?_
      refine z_imul dX7_pay_30 ?_
      refine z_aload_n dX7_pay_31 rfl ?_
      refine y_getI dX7_pay_32 fX7_100 (hM.lt (by decide)) (hM.2.1 24 (by decide)) rfl ?_
      refine z_top ((t : Int)) (ht) ?_
      refine z_iadd dX7_pay_35 ?_
      refine z_dup2 dX7_pay_36 rfl rfl ?_
      refine y_ialoadJ (301 * m0 + t) dX7_pay_37 (hM.lt (by decide)) (hM.2.1 28 (by decide)) (by omega) (by decide) ?_
      refine z_iload_n dX7_pay_38 rfl ?_
      refine z_iadd dX7_pay_39 ?_
      refine y_iastoreJ (301 * m0 + t) dX7_pay_40 (hM.lt (by decide)) (hM.2.1 28 (by decide)) (by omega) (by decide) ?_
      have hR2 : yRl (mPy I m0 t s) 29 rc := hR
      have ht2 : (mPy I m0 t s) 24 0 = (t : Int) := ht
      have hrw : zup I 28 (301 * m0 + t) (I 28 (301 * m0 + t) + s) = (mPy I m0 t s) := rfl
      rw [hrw]
      refine z_aload_n dX7_pay_41 rfl ?_
      refine z_aload_n dX7_pay_42 rfl ?_
      refine y_getI dX7_pay_43 fX7_100 (hM.lt (by decide)) (hM.2.1 24 (by decide)) rfl ?_
      refine z_top ((t : Int)) (ht2) ?_
      refine z_aload_n dX7_pay_46 rfl ?_
      refine y_getI dX7_pay_47 fX7_137 (hM.lt (by decide)) (hM.2.1 24 (by decide)) rfl ?_
      refine z_top ((rc : Int)) (hrc) ?_
      refine y_callV dX7_pay_50 kX7_140 (c_X7_know (I := (mPy I m0 t s)) (q := (t : Int)) (many := rc) hM (by omega) (by omega) hR2 (by omega)) (hM.lt (by decide)) (hM.2.1 24 (by decide)) rfl rfl rfl (Nat.le_of_ble_eq_true rfl) ⟨⟨by decide, by decide⟩, by decide, by decide⟩ (fun v50 n50 sh50 I50 P50 hp50 => ?_)
      obtain ⟨rfl, rfl, rfl, rfl, h50⟩ := hp50
      refine z_aload_n dX7_pay_53 rfl ?_
      refine z_iload_n dX7_pay_54 rfl ?_
      refine z_aload_n dX7_pay_55 rfl ?_
      refine y_getI dX7_pay_56 fX7_100 (hM.lt (by decide)) (hM.2.1 24 (by decide)) rfl ?_
      refine z_top ((t : Int)) ((kn_eq h50 (by decide) (by decide)).trans ht2) ?_
      refine y_callV dX7_pay_59 kX7_118 (c_X7_owes (I := I50) (m := m0) (w := t) (q := t) (j := jn I m0) hM (by omega) (by omega) (kn_q h50) (by omega) (by rw [kn_eq h50 (by decide) (by omega)]; show I 27 m0 = _; unfold jn; omega) (by unfold jn; omega)) (hM.lt (by decide)) (hM.2.1 24 (by decide)) rfl rfl rfl (Nat.le_of_ble_eq_true rfl) ⟨⟨by decide, by decide⟩, by decide, by decide⟩ (fun v59 n59 sh59 I59 P59 hp59 => ?_)
      obtain ⟨rfl, rfl, rfl, rfl, rfl⟩ := hp59
      rw [kn_ow h50 ht2 (by omega)]
      refine y_ireturn dX7_pay_62 rfl ?_
      rw [if_pos (by omega), if_pos (by omega)]
      exact ⟨rfl, rfl, rfl, rfl, fun a b h1 h2 h3 => kn_eq h50 (by omega) h2⟩
    · have c_16 := bI_0 c_16
      refine z_ldc _ dX7_pay_19 qX7_136 ?_
      refine y_ireturn dX7_pay_21 rfl ?_
      rw [if_neg (by omega), if_neg (by omega)]
      exact ⟨rfl, rfl, rfl, rfl, scF.rf⟩
end MQ
