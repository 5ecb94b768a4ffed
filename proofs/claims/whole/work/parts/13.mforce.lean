theorem sFI_29 (I : Nat → Nat → Int) (k : Nat) (w q : Int) (r : Nat) : sFI I 29 k w q (r + 1) = if I 29 r = k ∧ I 32 r ≤ q ∧ I 30 r ≤ w ∧ (sFI I 29 k w q r).1 ≤ I 30 r then (I 30 r, I 31 r) else sFI I 29 k w q r := rfl
section MF
variable {l : Launch} {E : zEnv} {n : Nat} {sh : Nat → Nat × Nat} {I : Nat → Nat → Int} {P : Nat → Nat → Option Nat}
set_option maxHeartbeats 4000000 in
set_option maxRecDepth 100000 in
theorem c_X7_atFirst {k : Nat} (hk : k < 7) : yC l E jX7_atFirst (rm 0 0) [.int (iI k)] n sh I P (yR (some (.int (iI (af k)))) n sh (I) P) := by
  refine yC_of (by decide) (Nat.le_of_ble_eq_true rfl) ?_
  refine z_iload_n dX7_atFirst_0 rfl ?_
  rcases (show k = 0 ∨ k = 1 ∨ k = 2 ∨ k = 3 ∨ k = 4 ∨ k = 5 ∨ k = 6 by omega) with rfl | rfl | rfl | rfl | rfl | rfl | rfl
  · refine z_tabIn 40 0 dX7_atFirst_1 (by decide) (by decide) (by decide) rfl (by decide) ?_
    refine z_iconst dX7_atFirst_40 ?_
    exact y_ireturn dX7_atFirst_41 rfl (yR_rfl)
  · refine z_tabIn 42 1 dX7_atFirst_1 (by decide) (by decide) (by decide) rfl (by decide) ?_
    refine z_iconst dX7_atFirst_42 ?_
    exact y_ireturn dX7_atFirst_43 rfl (yR_rfl)
  · refine z_tabIn 44 2 dX7_atFirst_1 (by decide) (by decide) (by decide) rfl (by decide) ?_
    refine z_bipush dX7_atFirst_44 rfl ?_
    exact y_ireturn dX7_atFirst_46 rfl (yR_rfl)
  · refine z_tabIn 47 3 dX7_atFirst_1 (by decide) (by decide) (by decide) rfl (by decide) ?_
    refine z_bipush dX7_atFirst_47 rfl ?_
    exact y_ireturn dX7_atFirst_49 rfl (yR_rfl)
  · refine z_tabIn 50 4 dX7_atFirst_1 (by decide) (by decide) (by decide) rfl (by decide) ?_
    refine z_bipush dX7_atFirst_50 rfl ?_
    exact y_ireturn dX7_atFirst_52 rfl (yR_rfl)
  · refine z_tabIn 53 5 dX7_atFirst_1 (by decide) (by decide) (by decide) rfl (by decide) ?_
    refine z_bipush dX7_atFirst_53 rfl ?_
    exact y_ireturn dX7_atFirst_55 rfl (yR_rfl)
  · refine z_tabOut 56 dX7_atFirst_1 (by decide) (by decide) ?_
    refine z_bipush dX7_atFirst_56 rfl ?_
    exact y_ireturn dX7_atFirst_58 rfl (yR_rfl)
set_option maxHeartbeats 4000000 in
set_option maxRecDepth 100000 in
theorem c_X7_isValue {k : Nat} (hk : k < 7) {v : Int} (hv : (-2147483648 ≤ v ∧ v ≤ 2147483647)) : yC l E jX7_isValue (rm 1 22) [.int (iI k), .int (iI v)] n sh I P (yR (some (.int (iI (bI (zsf 0 k ≤ v ∧ v ≤ zsf 1 k))))) n sh (I) P) := by
  refine yC_of (by decide) (Nat.le_of_ble_eq_true rfl) ?_
  refine z_iload_n dX7_isValue_0 rfl ?_
  rcases (show k = 0 ∨ k = 1 ∨ k = 2 ∨ k = 3 ∨ k = 4 ∨ k = 5 ∨ k = 6 by omega) with rfl | rfl | rfl | rfl | rfl | rfl | rfl
  · refine z_tabIn 40 0 dX7_isValue_1 (by decide) (by decide) (by decide) rfl (by decide) ?_
    refine z_iload_n dX7_isValue_40 rfl ?_
    refine z_iconst dX7_isValue_41 ?_
    refine z_bipush dX7_isValue_42 rfl ?_
    refine y_callS dX7_isValue_44 kX7_96 (c_X7_in hv (by omega) (by omega)) rfl rfl (Nat.le_of_ble_eq_true rfl) ⟨⟨by decide, by decide⟩, by decide, by decide⟩ (fun v44 n44 sh44 I44 P44 hp44 => ?_)
    obtain ⟨rfl, rfl, rfl, rfl, rfl⟩ := hp44
    exact y_zreturn dX7_isValue_47 rfl (bI_or _) (yR_rfl)
  · refine z_tabIn 48 1 dX7_isValue_1 (by decide) (by decide) (by decide) rfl (by decide) ?_
    refine z_iload_n dX7_isValue_48 rfl ?_
    refine z_iconst dX7_isValue_49 ?_
    refine z_bipush dX7_isValue_50 rfl ?_
    refine y_callS dX7_isValue_52 kX7_96 (c_X7_in hv (by omega) (by omega)) rfl rfl (Nat.le_of_ble_eq_true rfl) ⟨⟨by decide, by decide⟩, by decide, by decide⟩ (fun v52 n52 sh52 I52 P52 hp52 => ?_)
    obtain ⟨rfl, rfl, rfl, rfl, rfl⟩ := hp52
    exact y_zreturn dX7_isValue_55 rfl (bI_or _) (yR_rfl)
  · refine z_tabIn 56 2 dX7_isValue_1 (by decide) (by decide) (by decide) rfl (by decide) ?_
    refine z_iload_n dX7_isValue_56 rfl ?_
    refine z_iconst dX7_isValue_57 ?_
    refine z_bipush dX7_isValue_58 rfl ?_
    refine y_callS dX7_isValue_60 kX7_96 (c_X7_in hv (by omega) (by omega)) rfl rfl (Nat.le_of_ble_eq_true rfl) ⟨⟨by decide, by decide⟩, by decide, by decide⟩ (fun v60 n60 sh60 I60 P60 hp60 => ?_)
    obtain ⟨rfl, rfl, rfl, rfl, rfl⟩ := hp60
    exact y_zreturn dX7_isValue_63 rfl (bI_or _) (yR_rfl)
  · refine z_tabIn 64 3 dX7_isValue_1 (by decide) (by decide) (by decide) rfl (by decide) ?_
    refine z_iload_n dX7_isValue_64 rfl ?_
    refine z_iconst dX7_isValue_65 ?_
    refine z_sipush dX7_isValue_66 rfl ?_
    refine y_callS dX7_isValue_69 kX7_96 (c_X7_in hv (by omega) (by omega)) rfl rfl (Nat.le_of_ble_eq_true rfl) ⟨⟨by decide, by decide⟩, by decide, by decide⟩ (fun v69 n69 sh69 I69 P69 hp69 => ?_)
    obtain ⟨rfl, rfl, rfl, rfl, rfl⟩ := hp69
    exact y_zreturn dX7_isValue_72 rfl (bI_or _) (yR_rfl)
  · refine z_tabIn 73 4 dX7_isValue_1 (by decide) (by decide) (by decide) rfl (by decide) ?_
    refine z_iload_n dX7_isValue_73 rfl ?_
    refine z_iconst dX7_isValue_74 ?_
    refine z_sipush dX7_isValue_75 rfl ?_
    refine y_callS dX7_isValue_78 kX7_96 (c_X7_in hv (by omega) (by omega)) rfl rfl (Nat.le_of_ble_eq_true rfl) ⟨⟨by decide, by decide⟩, by decide, by decide⟩ (fun v78 n78 sh78 I78 P78 hp78 => ?_)
    obtain ⟨rfl, rfl, rfl, rfl, rfl⟩ := hp78
    exact y_zreturn dX7_isValue_81 rfl (bI_or _) (yR_rfl)
  · refine z_tabIn 82 5 dX7_isValue_1 (by decide) (by decide) (by decide) rfl (by decide) ?_
    refine z_iload_n dX7_isValue_82 rfl ?_
    refine z_iconst dX7_isValue_83 ?_
    refine z_sipush dX7_isValue_84 rfl ?_
    refine y_callS dX7_isValue_87 kX7_96 (c_X7_in hv (by omega) (by omega)) rfl rfl (Nat.le_of_ble_eq_true rfl) ⟨⟨by decide, by decide⟩, by decide, by decide⟩ (fun v87 n87 sh87 I87 P87 hp87 => ?_)
    obtain ⟨rfl, rfl, rfl, rfl, rfl⟩ := hp87
    exact y_zreturn dX7_isValue_90 rfl (bI_or _) (yR_rfl)
  · refine z_tabOut 91 dX7_isValue_1 (by decide) (by decide) ?_
    refine z_iload_n dX7_isValue_91 rfl ?_
    refine z_iconst dX7_isValue_92 ?_
    refine z_bipush dX7_isValue_93 rfl ?_
    refine y_callS dX7_isValue_95 kX7_96 (c_X7_in hv (by omega) (by omega)) rfl rfl (Nat.le_of_ble_eq_true rfl) ⟨⟨by decide, by decide⟩, by decide, by decide⟩ (fun v95 n95 sh95 I95 P95 hp95 => ?_)
    obtain ⟨rfl, rfl, rfl, rfl, rfl⟩ := hp95
    exact y_zreturn dX7_isValue_98 rfl (bI_or _) (yR_rfl)
set_option maxHeartbeats 4000000 in
set_option maxRecDepth 100000 in
theorem c_X7_isRule {k f v : Int} (hk : (-2147483648 ≤ k ∧ k ≤ 2147483647)) (hf : (-2147483648 ≤ f ∧ f ≤ 2147483647)) (hv : (-2147483648 ≤ v ∧ v ≤ 2147483647)) : yC l E jX7_isRule (rm 2 43) [.int (iI k), .int (iI f), .int (iI v)] n sh I P (yR (some (.int (iI (bI (sRule k f v))))) n sh (I) P) := by
  refine yC_of (by decide) (Nat.le_of_ble_eq_true rfl) ?_
  refine z_iload_n dX7_isRule_0 rfl ?_
  refine z_iconst dX7_isRule_1 ?_
  refine z_bipush dX7_isRule_2 rfl ?_
  refine y_callS dX7_isRule_4 kX7_96 (c_X7_in hk (by omega) (by omega)) rfl rfl (Nat.le_of_ble_eq_true rfl) ⟨⟨by decide, by decide⟩, by decide, by decide⟩ (fun v4 n4 sh4 I4 P4 hp4 => ?_)
  obtain ⟨rfl, rfl, rfl, rfl, rfl⟩ := hp4
  refine z_if_eq 33 dX7_isRule_7 (by decide) (bI_rng _) (fun c_7 => ?_) (fun c_7 => ?_)
  · refine z_iconst dX7_isRule_33 ?_
    refine y_zreturn dX7_isRule_34 rfl (by decide) ?_
    first | (rw [bI_t ⟨h7, h18, h26⟩]; exact yR_rfl) | (rw [bI_f (fun h => bI_0 c_7 h.1)]; exact yR_rfl) | (rw [bI_f (fun h => bI_0 c_18 h.2.1)]; exact yR_rfl) | (rw [bI_f (fun h => bI_0 c_26 h.2.2)]; exact yR_rfl)
  · refine z_iload_n dX7_isRule_10 rfl ?_
    refine z_iconst dX7_isRule_11 ?_
    refine z_sipush dX7_isRule_12 rfl ?_
    refine y_callS dX7_isRule_15 kX7_96 (c_X7_in hf (by omega) (by omega)) rfl rfl (Nat.le_of_ble_eq_true rfl) ⟨⟨by decide, by decide⟩, by decide, by decide⟩ (fun v15 n15 sh15 I15 P15 hp15 => ?_)
    obtain ⟨rfl, rfl, rfl, rfl, rfl⟩ := hp15
    refine z_if_eq 33 dX7_isRule_18 (by decide) (bI_rng _) (fun c_18 => ?_) (fun c_18 => ?_)
    · refine z_iconst dX7_isRule_33 ?_
      refine y_zreturn dX7_isRule_34 rfl (by decide) ?_
      first | (rw [bI_t ⟨h7, h18, h26⟩]; exact yR_rfl) | (rw [bI_f (fun h => bI_0 c_7 h.1)]; exact yR_rfl) | (rw [bI_f (fun h => bI_0 c_18 h.2.1)]; exact yR_rfl) | (rw [bI_f (fun h => bI_0 c_26 h.2.2)]; exact yR_rfl)
    · have h7 := bI_1 c_7
      obtain ⟨j, rfl⟩ : ∃ j : Nat, k = j := ⟨k.toNat, by omega⟩
      refine z_iload_n dX7_isRule_21 rfl ?_
      refine z_iload_n dX7_isRule_22 rfl ?_
      refine y_callS dX7_isRule_23 kX7_144 (c_X7_isValue (k := j) (by omega) hv) rfl rfl (Nat.le_of_ble_eq_true rfl) ⟨⟨by decide, by decide⟩, by decide, by decide⟩ (fun v23 n23 sh23 I23 P23 hp23 => ?_)
      obtain ⟨rfl, rfl, rfl, rfl, rfl⟩ := hp23
      refine z_if_eq 33 dX7_isRule_26 (by decide) (bI_rng _) (fun c_26 => ?_) (fun c_26 => ?_)
      · refine z_iconst dX7_isRule_33 ?_
        refine y_zreturn dX7_isRule_34 rfl (by decide) ?_
        first | (rw [bI_t ⟨h7, h18, h26⟩]; exact yR_rfl) | (rw [bI_f (fun h => bI_0 c_7 h.1)]; exact yR_rfl) | (rw [bI_f (fun h => bI_0 c_18 h.2.1)]; exact yR_rfl) | (rw [bI_f (fun h => bI_0 c_26 h.2.2)]; exact yR_rfl)
      · have h18 := bI_1 c_18
        have h26 := bI_1 c_26
        refine z_iconst dX7_isRule_29 ?_
        refine z_goto 34 dX7_isRule_30 (by decide) ?_
        refine y_zreturn dX7_isRule_34 rfl (by decide) ?_
        first | (rw [bI_t ⟨h7, h18, h26⟩]; exact yR_rfl) | (rw [bI_f (fun h => bI_0 c_7 h.1)]; exact yR_rfl) | (rw [bI_f (fun h => bI_0 c_18 h.2.1)]; exact yR_rfl) | (rw [bI_f (fun h => bI_0 c_26 h.2.2)]; exact yR_rfl)
set_option maxHeartbeats 4000000 in
set_option maxRecDepth 100000 in
theorem l_X7_inForce (hM : yM n sh P) {k : Nat} (hk : k < 7) {w q : Int} (hw : (-2147483648 ≤ w ∧ w ≤ 2147483647)) (hq : (-2147483648 ≤ q ∧ q ≤ 2147483647)) {many : Nat} (hmany : many ≤ 201) (hR : yRl I 29 many) : ∀ r : Nat, r ≤ many → Z l E jX7_inForce (rm 1 20) (yE E 0 0 (yR (some (.int (iI (sFI I 29 k w q many).2))) n sh I P)) 0 0 (zw E n sh I P) 12 [(0, .ref (zb E + 24)), (1, .int (iI k)), (2, .int (iI w)), (3, .int (iI q)), (4, .int (iI many)), (5, .int (iI (sFI I 29 k w q r).2)), (6, .int (iI (sFI I 29 k w q r).1)), (7, .int (iI r))] [] := by
  refine zloop (fun r => many - r) (fun r ih hr0 => ?_)
  refine z_iload dX7_inForce_12 rfl ?_
  refine z_iload dX7_inForce_14 rfl ?_
  refine z_icmp_ge 88 dX7_inForce_16 (by decide) (by omega) (by omega) (fun c_16 => ?_) (fun c_16 => ?_)
  · have er : r = many := by omega
    subst er
    refine z_iload dX7_inForce_88 rfl ?_
    exact y_ireturn dX7_inForce_90 rfl (yR_rfl)
  · have hr : (0 ≤ I 29 r ∧ I 29 r ≤ 6) ∧ (0 ≤ I 30 r ∧ I 30 r ≤ 1000) ∧ (0 ≤ I 31 r ∧ I 31 r ≤ 400) ∧ (0 ≤ I 32 r ∧ I 32 r ≤ 300) := hR r (by omega)
    have hf := (sFI_rng (I := I) (o := 29) hk (w := w) (q := q) (r := r) (fun a ha => hR a (by omega))).1
    refine z_aload_n dX7_inForce_19 rfl ?_
    refine y_getR dX7_inForce_20 fX7_22 (hM.lt (by decide)) (hM.2.1 24 (by decide)) rfl (hM.2.2 9) ?_
    refine z_iload dX7_inForce_23 rfl ?_
    refine y_ialoadJ (r) dX7_inForce_25 (hM.lt (by decide)) (hM.2.1 29 (by decide)) (by omega) (by decide) ?_
    refine z_iload_n dX7_inForce_26 rfl ?_
    refine z_icmp_ne 82 dX7_inForce_27 (by decide) (by omega) (by omega) (fun c_27 => ?_) (fun c_27 => ?_)
    · refine z_iinc dX7_inForce_82 rfl (by decide) ?_
      refine z_goto 12 dX7_inForce_85 (by decide) ?_
      refine z_keys [0, 1, 2, 3, 4, 5, 6, 7] ?_
      have h5 := ih (r + 1) (by omega) (by omega)
      rw [sFI_29] at h5
      first | rw [if_pos (by omega)] at h5 | rw [if_neg (by omega)] at h5
      exact h5
    · refine z_aload_n dX7_inForce_30 rfl ?_
      refine y_getR dX7_inForce_31 fX7_31 (hM.lt (by decide)) (hM.2.1 24 (by decide)) rfl (hM.2.2 12) ?_
      refine z_iload dX7_inForce_34 rfl ?_
      refine y_ialoadJ (r) dX7_inForce_36 (hM.lt (by decide)) (hM.2.1 32 (by decide)) (by omega) (by decide) ?_
      refine z_iload_n dX7_inForce_37 rfl ?_
      refine z_icmp_gt 82 dX7_inForce_38 (by decide) (by omega) (by omega) (fun c_38 => ?_) (fun c_38 => ?_)
      · refine z_iinc dX7_inForce_82 rfl (by decide) ?_
        refine z_goto 12 dX7_inForce_85 (by decide) ?_
        refine z_keys [0, 1, 2, 3, 4, 5, 6, 7] ?_
        have h5 := ih (r + 1) (by omega) (by omega)
        rw [sFI_29] at h5
        first | rw [if_pos (by omega)] at h5 | rw [if_neg (by omega)] at h5
        exact h5
      · refine z_aload_n dX7_inForce_41 rfl ?_
        refine y_getR dX7_inForce_42 fX7_25 (hM.lt (by decide)) (hM.2.1 24 (by decide)) rfl (hM.2.2 10) ?_
        refine z_iload dX7_inForce_45 rfl ?_
        refine y_ialoadJ (r) dX7_inForce_47 (hM.lt (by decide)) (hM.2.1 30 (by decide)) (by omega) (by decide) ?_
        refine z_iload_n dX7_inForce_48 rfl ?_
        refine z_icmp_gt 82 dX7_inForce_49 (by decide) (by omega) (by omega) (fun c_49 => ?_) (fun c_49 => ?_)
        · refine z_iinc dX7_inForce_82 rfl (by decide) ?_
          refine z_goto 12 dX7_inForce_85 (by decide) ?_
          refine z_keys [0, 1, 2, 3, 4, 5, 6, 7] ?_
          have h5 := ih (r + 1) (by omega) (by omega)
          rw [sFI_29] at h5
          first | rw [if_pos (by omega)] at h5 | rw [if_neg (by omega)] at h5
          exact h5
        · refine z_aload_n dX7_inForce_52 rfl ?_
          refine y_getR dX7_inForce_53 fX7_25 (hM.lt (by decide)) (hM.2.1 24 (by decide)) rfl (hM.2.2 10) ?_
          refine z_iload dX7_inForce_56 rfl ?_
          refine y_ialoadJ (r) dX7_inForce_58 (hM.lt (by decide)) (hM.2.1 30 (by decide)) (by omega) (by decide) ?_
          refine z_iload dX7_inForce_59 rfl ?_
          refine z_icmp_lt 82 dX7_inForce_61 (by decide) (by omega) (by omega) (fun c_61 => ?_) (fun c_61 => ?_)
          · refine z_iinc dX7_inForce_82 rfl (by decide) ?_
            refine z_goto 12 dX7_inForce_85 (by decide) ?_
            refine z_keys [0, 1, 2, 3, 4, 5, 6, 7] ?_
            have h5 := ih (r + 1) (by omega) (by omega)
            rw [sFI_29] at h5
            first | rw [if_pos (by omega)] at h5 | rw [if_neg (by omega)] at h5
            exact h5
          · refine z_aload_n dX7_inForce_64 rfl ?_
            refine y_getR dX7_inForce_65 fX7_25 (hM.lt (by decide)) (hM.2.1 24 (by decide)) rfl (hM.2.2 10) ?_
            refine z_iload dX7_inForce_68 rfl ?_
            refine y_ialoadJ (r) dX7_inForce_70 (hM.lt (by decide)) (hM.2.1 30 (by decide)) (by omega) (by decide) ?_
            refine z_istore dX7_inForce_71 (by decide) ?_
            refine z_aload_n dX7_inForce_73 rfl ?_
            refine y_getR dX7_inForce_74 fX7_28 (hM.lt (by decide)) (hM.2.1 24 (by decide)) rfl (hM.2.2 11) ?_
            refine z_iload dX7_inForce_77 rfl ?_
            refine y_ialoadJ (r) dX7_inForce_79 (hM.lt (by decide)) (hM.2.1 31 (by decide)) (by omega) (by decide) ?_
            refine z_istore dX7_inForce_80 (by decide) ?_
            refine z_iinc dX7_inForce_82 rfl (by decide) ?_
            refine z_goto 12 dX7_inForce_85 (by decide) ?_
            refine z_keys [0, 1, 2, 3, 4, 5, 6, 7] ?_
            have h5 := ih (r + 1) (by omega) (by omega)
            rw [sFI_29] at h5
            first | rw [if_pos (by omega)] at h5 | rw [if_neg (by omega)] at h5
            exact h5
set_option maxHeartbeats 4000000 in
set_option maxRecDepth 100000 in
theorem c_X7_inForce (hM : yM n sh P) {k : Nat} (hk : k < 7) {w q : Int} (hw : (-2147483648 ≤ w ∧ w ≤ 2147483647)) (hq : (-2147483648 ≤ q ∧ q ≤ 2147483647)) {many : Nat} (hmany : many ≤ 201) (hR : yRl I 29 many) : yC l E jX7_inForce (rm 1 20) [.ref (zb E + 24), .int (iI k), .int (iI w), .int (iI q), .int (iI many)] n sh I P (yR (some (.int (iI (sFI I 29 k w q many).2))) n sh (I) P) := by
  refine yC_of (by decide) (Nat.le_of_ble_eq_true rfl) ?_
  refine z_iload_n dX7_inForce_0 rfl ?_
  refine y_callS dX7_inForce_1 kX7_103 (c_X7_atFirst hk) rfl rfl (Nat.le_of_ble_eq_true rfl) ⟨⟨by decide, by decide⟩, by decide, by decide⟩ (fun v1 n1 sh1 I1 P1 hp1 => ?_)
  obtain ⟨rfl, rfl, rfl, rfl, rfl⟩ := hp1
  refine z_istore dX7_inForce_4 (by decide) ?_
  refine z_iconst dX7_inForce_6 ?_
  refine z_istore dX7_inForce_7 (by decide) ?_
  refine z_iconst dX7_inForce_9 ?_
  refine z_istore dX7_inForce_10 (by decide) ?_
  refine z_keys [0, 1, 2, 3, 4, 5, 6, 7] ?_
  exact l_X7_inForce hM hk hw hq hmany hR 0 (by omega)
end MF
/-- what know() makes -/
def mKn (I I' : Nat → Nat → Int) (q : Int) (many : Nat) : Prop := (∀ a b, a ≠ 45 → I' a b = zup I 24 26 q a b) ∧ ∀ k w : Nat, k < 7 → (w : Int) ≤ I 24 0 → I' 45 (301 * k + w) = (sFI I 29 k w q many).2
/-- as far as it has come -/
def mKn0 (I I' : Nat → Nat → Int) (q : Int) (many k w : Nat) : Prop := (∀ a b, a ≠ 45 → I' a b = zup I 24 26 q a b) ∧ ∀ k' w' : Nat, k' < 7 → (w' : Int) ≤ I 24 0 → (k' < k ∨ (k' = k ∧ w' < w)) → I' 45 (301 * k' + w') = (sFI I 29 k' w' q many).2
theorem mKn0.rows {I I' : Nat → Nat → Int} {q : Int} {many k w : Nat} (h : mKn0 I I' q many k w) : ∀ a, 29 ≤ a → a < 29 + 4 → I' a = I a := fun a h1 h2 => funext fun b => by rw [h.1 a b (by omega)]; simp [zup, show ¬ a = 24 by omega]
theorem mKn0.now {I I' : Nat → Nat → Int} {q : Int} {many k w : Nat} (h : mKn0 I I' q many k w) : I' 24 0 = I 24 0 := by rw [h.1 24 0 (by decide)]; rfl
section MK
variable {l : Launch} {E : zEnv} {n : Nat} {sh : Nat → Nat × Nat} {I : Nat → Nat → Int} {P : Nat → Nat → Option Nat}
set_option maxHeartbeats 4000000 in
set_option maxRecDepth 100000 in
theorem l2_X7_know (hM : yM n sh P) {q : Int} (hq : (-2147483648 ≤ q ∧ q ≤ 2147483647)) {many : Nat} (hmany : many ≤ 201) (hR : yRl I 29 many) (hnow : 0 ≤ I 24 0 ∧ I 24 0 ≤ 300) {k : Nat} (hk : k < 7) (hout : ∀ I', mKn0 I I' q many (k + 1) 0 → Z l E jX7_know (rm 2 47) (yE E 0 0 (yS none n sh P (fun I' => mKn I I' q many))) 0 0 (zw E n sh I' P) 7 [(0, .ref (zb E + 24)), (1, .int (iI q)), (2, .int (iI many)), (3, .int (iI (k + 1)))] []) : ∀ w : Nat, ∀ I', mKn0 I I' q many k w → (w : Int) ≤ I 24 0 + 1 → Z l E jX7_know (rm 2 47) (yE E 0 0 (yS none n sh P (fun I' => mKn I I' q many))) 0 0 (zw E n sh I' P) 16 [(0, .ref (zb E + 24)), (1, .int (iI q)), (2, .int (iI many)), (3, .int (iI k)), (4, .int (iI w))] [] := by
  refine zloop (fun w : Nat => (I 24 0).toNat + 1 - w) (fun w ih I' hI hw0 => ?_)
  refine z_iload dX7_know_16 rfl ?_
  have hn := hI.now
  have hR' : yRl I' 29 many := fun r hr => by have h := hR r hr; rw [hI.rows 29 (by omega) (by omega), hI.rows (29 + 1) (by omega) (by omega), hI.rows (29 + 2) (by omega) (by omega), hI.rows (29 + 3) (by omega) (by omega)]; exact h
  refine z_aload_n dX7_know_18 rfl ?_
  refine y_getI dX7_know_19 fX7_100 (hM.lt (by decide)) (hM.2.1 24 (by decide)) rfl ?_
  refine z_icmp_gt 53 dX7_know_22 (by decide) (by omega) (by omega) (fun c_22 => ?_) (fun c_22 => ?_)
  · refine z_iinc dX7_know_53 rfl (by decide) ?_
    refine z_goto 7 dX7_know_56 (by decide) ?_
    refine z_keys [0, 1, 2, 3] ?_
    refine hout I' ⟨hI.1, fun k' w' h1 h2 h3 => ?_⟩
    refine hI.2 k' w' h1 h2 ?_
    omega
  · refine z_aload_n dX7_know_25 rfl ?_
    refine y_getR dX7_know_26 fX7_70 (hM.lt (by decide)) (hM.2.1 24 (by decide)) rfl (hM.2.2 25) ?_
    refine z_sipush dX7_know_29 rfl ?_
    refine z_iload_n dX7_know_32 rfl ?_
    refine z_imul dX7_know_33 ?_
    refine z_iload dX7_know_34 rfl ?_
    refine z_iadd dX7_know_36 ?_
    refine z_aload_n dX7_know_37 rfl ?_
    refine z_iload_n dX7_know_38 rfl ?_
    refine z_iload dX7_know_39 rfl ?_
    refine z_iload_n dX7_know_41 rfl ?_
    refine z_iload_n dX7_know_42 rfl ?_
    refine y_callV dX7_know_43 kX7_110 (c_X7_inForce (I := I') hM hk (by omega) hq hmany hR') (hM.lt (by decide)) (hM.2.1 24 (by decide)) rfl rfl rfl (Nat.le_of_ble_eq_true rfl) ⟨⟨by decide, by decide⟩, by decide, by decide⟩ (fun v43 n43 sh43 I43 P43 hp43 => ?_)
    obtain ⟨rfl, rfl, rfl, rfl, rfl⟩ := hp43
    refine y_iastoreJ (301 * k + w) dX7_know_46 (hM.lt (by decide)) (hM.2.1 45 (by decide)) (by omega) (by decide) ?_
    refine z_iinc dX7_know_47 rfl (by decide) ?_
    refine z_goto 16 dX7_know_50 (by decide) ?_
    refine z_keys [0, 1, 2, 3, 4] ?_
    rw [sFI_cong hI.rows]
    refine ih (w + 1) (by omega) _ ⟨fun a b ha => ?_, fun k' w' h1 h2 h3 => ?_⟩ (by omega)
    · rw [zup_ne ha]; exact hI.1 a b ha
    · by_cases e : 301 * k' + w' = 301 * k + w
      · have e1 : k' = k := by omega
        have e2 : w' = w := by omega
        subst e1; subst e2
        simp [zup]
      · simp only [zup, e, and_false, if_false]
        exact hI.2 k' w' h1 h2 (by omega)
set_option maxHeartbeats 4000000 in
set_option maxRecDepth 100000 in
theorem l1_X7_know (hM : yM n sh P) {q : Int} (hq : (-2147483648 ≤ q ∧ q ≤ 2147483647)) {many : Nat} (hmany : many ≤ 201) (hR : yRl I 29 many) (hnow : 0 ≤ I 24 0 ∧ I 24 0 ≤ 300) : ∀ k : Nat, ∀ I', mKn0 I I' q many k 0 → k ≤ 7 → Z l E jX7_know (rm 2 47) (yE E 0 0 (yS none n sh P (fun I' => mKn I I' q many))) 0 0 (zw E n sh I' P) 7 [(0, .ref (zb E + 24)), (1, .int (iI q)), (2, .int (iI many)), (3, .int (iI k))] [] := by
  refine zloop (fun k : Nat => 7 - k) (fun k ih I' hI hk0 => ?_)
  refine z_iload_n dX7_know_7 rfl ?_
  refine z_bipush dX7_know_8 rfl ?_
  refine z_icmp_ge 59 dX7_know_10 (by decide) (by omega) (by omega) (fun c_10 => ?_) (fun c_10 => ?_)
  · exact y_return dX7_know_59 rfl (⟨rfl, rfl, rfl, rfl, hI.1, fun k' w' h1 h2 => hI.2 k' w' h1 h2 (by omega)⟩)
  · refine z_iconst dX7_know_13 ?_
    refine z_istore dX7_know_14 (by decide) ?_
    refine z_keys [0, 1, 2, 3, 4] ?_
    exact l2_X7_know hM hq hmany hR hnow (k := k) (by omega) (fun I'' h => ih (k + 1) (by omega) I'' h (by omega)) 0 I' hI (by omega)
set_option maxHeartbeats 4000000 in
set_option maxRecDepth 100000 in
/-- know(q, many) -/
theorem c_X7_know (hM : yM n sh P) {q : Int} (hq : (-2147483648 ≤ q ∧ q ≤ 2147483647)) {many : Nat} (hmany : many ≤ 201) (hR : yRl I 29 many) (hnow : 0 ≤ I 24 0 ∧ I 24 0 ≤ 300) : yC l E jX7_know (rm 2 47) [.ref (zb E + 24), .int (iI q), .int (iI many)] n sh I P (yS none n sh P (fun I' => mKn I I' q many)) := by
  refine yC_of (by decide) (Nat.le_of_ble_eq_true rfl) ?_
  refine z_aload_n dX7_know_0 rfl ?_
  refine z_iload_n dX7_know_1 rfl ?_
  refine y_putI dX7_know_2 fX7_107 (hM.lt (by decide)) (hM.2.1 24 (by decide)) rfl ?_
  refine z_iconst dX7_know_5 ?_
  refine z_istore_n dX7_know_6 (by decide) ?_
  refine z_keys [0, 1, 2, 3] ?_
  exact l1_X7_know hM hq hmany hR hnow 0 _ ⟨fun _ _ _ => rfl, fun k' w' h1 h2 h3 => by omega⟩ (by omega)
end MK
