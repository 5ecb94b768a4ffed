section BCt
variable {l : Launch} {E : zEnv} {n : Nat} {sh : Nat → Nat × Nat} {I : Nat → Nat → Int} {P : Nat → Nat → Option Nat}
set_option maxHeartbeats 4000000 in
set_option maxRecDepth 100000 in
theorem c_X6_shareOf (hB : yB n sh P) {x t : Nat} (hMb : yMb n sh P x) (hN8 : I 0 8 = (t : Int)) (ht3 : t ≤ 300) {a : Int} (ha : 0 ≤ a ∧ a ≤ 2) : yC l E jX6_shareOf (rm 0 0) [.ref (zb E + 0), .ref (zb E + x), .int (iI a)] n sh I P (yR (some (.int (iI (if a = 0 then 1 else if a = 1 then I (x + 1) t else I x 6)))) n sh I P) := by
  refine yC_of (by decide) (Nat.le_of_ble_eq_true rfl) ?_
  refine z_iload_n dX6_shareOf_0 rfl ?_
  rcases (show a = 0 ∨ a = 1 ∨ a = 2 by omega) with rfl | rfl | rfl
  · refine z_lookup (off := 27) 28 dX6_shareOf_1 (by decide) (by decide) (by decide) ?_
    refine z_iconst dX6_shareOf_28 ?_
    refine y_ireturn dX6_shareOf_29 rfl ?_
    first | exact yR_rfl | (rw [if_pos rfl]; exact yR_rfl) | (rw [if_neg (by decide), if_pos rfl]; exact yR_rfl) | (rw [if_neg (by decide), if_neg (by decide)]; exact yR_rfl)
  · refine z_lookup (off := 29) 30 dX6_shareOf_1 (by decide) (by decide) (by decide) ?_
    refine z_aload_n dX6_shareOf_30 rfl ?_
    refine y_getR dX6_shareOf_31 fX6_66 hMb.l0 hMb.2.1 rfl hMb.2.2.2.2.2.1 ?_
    refine z_aload_n dX6_shareOf_34 rfl ?_
    refine y_getI dX6_shareOf_35 fX6_55 (hB.lt (by decide)) (hB.2.1 0 (by decide)) rfl ?_
    refine z_top ((t : Int)) (hN8) ?_
    refine y_ialoadJ (t) dX6_shareOf_38 hMb.l1 hMb.2.2.1 (by omega) (by decide) ?_
    refine y_ireturn dX6_shareOf_39 rfl ?_
    first | exact yR_rfl | (rw [if_pos rfl]; exact yR_rfl) | (rw [if_neg (by decide), if_pos rfl]; exact yR_rfl) | (rw [if_neg (by decide), if_neg (by decide)]; exact yR_rfl)
  · refine z_lookup (off := 39) 40 dX6_shareOf_1 (by decide) (by decide) (by decide) ?_
    refine z_aload_n dX6_shareOf_40 rfl ?_
    refine y_getI dX6_shareOf_41 fX6_223 hMb.l0 hMb.2.1 rfl ?_
    refine y_ireturn dX6_shareOf_44 rfl ?_
    first | exact yR_rfl | (rw [if_pos rfl]; exact yR_rfl) | (rw [if_neg (by decide), if_pos rfl]; exact yR_rfl) | (rw [if_neg (by decide), if_neg (by decide)]; exact yR_rfl)
set_option maxHeartbeats 4000000 in
set_option maxRecDepth 100000 in
theorem l_X6_lodge (hB : yB n sh P) {M : Nat → Nat → Int} {t mc rc pc bc c : Nat} {ma pa : Nat → Nat} {Ls : Nat → List Nat} {r rl : Nat} (hO : mOk M t mc rc pc bc c) (hC : cpl n sh I P M t mc rc pc bc ma pa Ls r rl) {g a : Int} (hg : (-2147483648 ≤ g ∧ g ≤ 2147483647)) (ha : 0 ≤ a ∧ a ≤ 2) : ∀ i : Nat, i ≤ mc → Z l E jX6_lodge (rm 1 22) (yE E 0 0 (kP (.int (iI (mLo M g a mc))) I P M t mc rc pc bc rl)) 0 0 (zw E n sh I P) 25 [(0, .ref (zb E + 0)), (1, .int (iI g)), (2, .int (iI a)), (3, .int (iI (mLo M g a i))), (4, .int (iI i))] [] := by
  obtain ⟨hN6, hN7, hN8⟩ := hC.1
  have hb5 := hO.2.1
  refine zloop (fun i : Nat => mc - i) (fun i ih hi0 => ?_)
  refine z_iload dX6_lodge_25 rfl ?_
  refine z_aload_n dX6_lodge_27 rfl ?_
  refine y_getI dX6_lodge_28 fX6_51 (hB.lt (by decide)) (hB.2.1 0 (by decide)) rfl ?_
  refine z_top ((mc : Int)) (hN6) ?_
  refine z_icmp_ge 69 dX6_lodge_31 (by decide) (by omega) (by omega) (fun c_31 => ?_) (fun c_31 => ?_)
  · have em : i = mc := by omega
    subst em
    refine z_iload_n dX6_lodge_69 rfl ?_
    exact y_ireturn dX6_lodge_70 rfl (kP.same hB hC)
  · obtain ⟨hx, hMe⟩ := hC.2.2.2.1 i (by omega)
    have hMb := hMe.1
    have hlo := (hO.2.2.2.2.1 i (by omega)).2.1
    have hpt : I (ma i + 1) t = sm (pd M i) 301 := by rw [hMe.2.2.1 t (by omega)]; exact (hO.paid (by omega)).symm
    refine z_aload_n dX6_lodge_34 rfl ?_
    refine y_getR dX6_lodge_35 fX6_11 (hB.lt (by decide)) (hB.2.1 0 (by decide)) rfl (hB.2.2.1 0) ?_
    refine z_iload dX6_lodge_38 rfl ?_
    refine y_aaload dX6_lodge_40 (hB.lt (by decide)) (hB.2.1 1 (by decide)) (by decide) (by omega) (by decide) (by rw [Int.toNat_natCast]; exact hx) ?_
    refine y_getI dX6_lodge_41 fX6_198 hMb.l0 hMb.2.1 rfl ?_
    refine z_top (M 26 i) (hMe.2.1.2.1) ?_
    refine z_iload_n dX6_lodge_44 rfl ?_
    refine z_icmp_ne 63 dX6_lodge_45 (by decide) (by omega) (by omega) (fun c_45 => ?_) (fun c_45 => ?_)
    · refine z_iinc dX6_lodge_63 rfl (by decide) ?_
      refine z_goto 25 dX6_lodge_66 (by decide) ?_
      refine z_keys [0, 1, 2, 3, 4] ?_
      have h5 := ih (i + 1) (by omega) (by omega)
      unfold mLo at h5 ⊢
      rw [sm_succ] at h5
      first | (rw [if_pos (by omega)] at h5; exact h5) | (rw [if_neg (by omega), Int.add_zero] at h5; exact h5)
    · refine z_iload_n dX6_lodge_48 rfl ?_
      refine z_aload_n dX6_lodge_49 rfl ?_
      refine z_aload_n dX6_lodge_50 rfl ?_
      refine y_getR dX6_lodge_51 fX6_11 (hB.lt (by decide)) (hB.2.1 0 (by decide)) rfl (hB.2.2.1 0) ?_
      refine z_iload dX6_lodge_54 rfl ?_
      refine y_aaload dX6_lodge_56 (hB.lt (by decide)) (hB.2.1 1 (by decide)) (by decide) (by omega) (by decide) (by rw [Int.toNat_natCast]; exact hx) ?_
      refine z_iload_n dX6_lodge_57 rfl ?_
      refine y_callV dX6_lodge_58 kX6_201 (c_X6_shareOf hB hMb hN8 (by omega) ha) (hB.lt (by decide)) (hB.2.1 0 (by decide)) rfl rfl rfl (Nat.le_of_ble_eq_true rfl) ⟨⟨by decide, by decide⟩, by decide, by decide⟩ (fun v58 n58 sh58 I58 P58 hp58 => ?_)
      obtain ⟨rfl, rfl, rfl, rfl, rfl⟩ := hp58
      refine z_top (mLo1 M a i) (by unfold mLo1; rw [hpt, hMe.2.2.2.2.1]) ?_
      refine z_iadd dX6_lodge_61 ?_
      refine z_istore_n dX6_lodge_62 (by decide) ?_
      refine z_iinc dX6_lodge_63 rfl (by decide) ?_
      refine z_goto 25 dX6_lodge_66 (by decide) ?_
      refine z_keys [0, 1, 2, 3, 4] ?_
      have h5 := ih (i + 1) (by omega) (by omega)
      unfold mLo at h5 ⊢
      rw [sm_succ] at h5
      first | (rw [if_pos (by omega)] at h5; exact h5) | (rw [if_neg (by omega), Int.add_zero] at h5; exact h5)
set_option maxHeartbeats 4000000 in
set_option maxRecDepth 100000 in
theorem c_X6_lodge (hB : yB n sh P) {M : Nat → Nat → Int} {t mc rc pc bc c : Nat} {ma pa : Nat → Nat} {Ls : Nat → List Nat} {r rl : Nat} (hO : mOk M t mc rc pc bc c) (hC : cpl n sh I P M t mc rc pc bc ma pa Ls r rl) {g a : Int} (hg : (-2147483648 ≤ g ∧ g ≤ 2147483647)) (ha : (-2147483648 ≤ a ∧ a ≤ 2147483647)) : yC l E jX6_lodge (rm 1 22) [.ref (zb E + 0), .int (iI g), .int (iI a)] n sh I P (kP (.int (iI (if ((0 ≤ g ∧ g ≤ 3) ∧ (0 ≤ a ∧ a ≤ 2)) then mLo M g a mc else -1))) I P M t mc rc pc bc rl) := by
  obtain ⟨hN6, hN7, hN8⟩ := hC.1
  have hb5 := hO.2.1
  refine yC_of (by decide) (Nat.le_of_ble_eq_true rfl) ?_
  refine z_iload_n dX6_lodge_0 rfl ?_
  refine z_if_lt 18 dX6_lodge_1 (by decide) (by omega) (fun c_1 => ?_) (fun c_1 => ?_)
  · refine z_iconst dX6_lodge_18 ?_
    refine y_ireturn dX6_lodge_19 rfl ?_
    rw [if_neg (by omega)]
    exact kP.same hB hC
  · refine z_iload_n dX6_lodge_4 rfl ?_
    refine z_iconst dX6_lodge_5 ?_
    refine z_icmp_ge 18 dX6_lodge_6 (by decide) (by omega) (by omega) (fun c_6 => ?_) (fun c_6 => ?_)
    · refine z_iconst dX6_lodge_18 ?_
      refine y_ireturn dX6_lodge_19 rfl ?_
      rw [if_neg (by omega)]
      exact kP.same hB hC
    · refine z_iload_n dX6_lodge_9 rfl ?_
      refine z_if_lt 18 dX6_lodge_10 (by decide) (by omega) (fun c_10 => ?_) (fun c_10 => ?_)
      · refine z_iconst dX6_lodge_18 ?_
        refine y_ireturn dX6_lodge_19 rfl ?_
        rw [if_neg (by omega)]
        exact kP.same hB hC
      · refine z_iload_n dX6_lodge_13 rfl ?_
        refine z_iconst dX6_lodge_14 ?_
        refine z_icmp_le 20 dX6_lodge_15 (by decide) (by omega) (by omega) (fun c_15 => ?_) (fun c_15 => ?_)
        · refine z_iconst dX6_lodge_20 ?_
          refine z_istore_n dX6_lodge_21 (by decide) ?_
          refine z_iconst dX6_lodge_22 ?_
          refine z_istore dX6_lodge_23 (by decide) ?_
          refine z_keys [0, 1, 2, 3, 4] ?_
          rw [if_pos (by omega)]
          exact l_X6_lodge hB hO hC hg (by omega) 0 (by omega)
        · refine z_iconst dX6_lodge_18 ?_
          refine y_ireturn dX6_lodge_19 rfl ?_
          rw [if_neg (by omega)]
          exact kP.same hB hC
set_option maxHeartbeats 4000000 in
set_option maxRecDepth 100000 in
theorem l_X6_coinsPaid (hB : yB n sh P) {M : Nat → Nat → Int} {t mc rc pc bc c : Nat} {ma pa : Nat → Nat} {Ls : Nat → List Nat} {r rl : Nat} (hO : mOk M t mc rc pc bc c) (hC : cpl n sh I P M t mc rc pc bc ma pa Ls r rl) : ∀ i : Nat, i ≤ mc → Z l E jX6_coinsPaid (rm 0 0) (yE E 0 0 (yR (some (.int (iI (mAll M mc)))) n sh I P)) 0 0 (zw E n sh I P) 4 [(0, .ref (zb E + 0)), (1, .int (iI (mAll M i))), (2, .int (iI i))] [] := by
  obtain ⟨hN6, hN7, hN8⟩ := hC.1
  have hb5 := hO.2.1
  refine zloop (fun i : Nat => mc - i) (fun i ih hi0 => ?_)
  refine z_iload_n dX6_coinsPaid_4 rfl ?_
  refine z_aload_n dX6_coinsPaid_5 rfl ?_
  refine y_getI dX6_coinsPaid_6 fX6_51 (hB.lt (by decide)) (hB.2.1 0 (by decide)) rfl ?_
  refine z_top ((mc : Int)) (hN6) ?_
  refine z_icmp_ge 35 dX6_coinsPaid_9 (by decide) (by omega) (by omega) (fun c_9 => ?_) (fun c_9 => ?_)
  · have em : i = mc := by omega
    subst em
    refine z_iload_n dX6_coinsPaid_35 rfl ?_
    exact y_ireturn dX6_coinsPaid_36 rfl (yR_rfl)
  · obtain ⟨hx, hMe⟩ := hC.2.2.2.1 i (by omega)
    have hMb := hMe.1
    have hpt : I (ma i + 1) t = sm (pd M i) 301 := by rw [hMe.2.2.1 t (by omega)]; exact (hO.paid (by omega)).symm
    refine z_iload_n dX6_coinsPaid_12 rfl ?_
    refine z_aload_n dX6_coinsPaid_13 rfl ?_
    refine y_getR dX6_coinsPaid_14 fX6_11 (hB.lt (by decide)) (hB.2.1 0 (by decide)) rfl (hB.2.2.1 0) ?_
    refine z_iload_n dX6_coinsPaid_17 rfl ?_
    refine y_aaload dX6_coinsPaid_18 (hB.lt (by decide)) (hB.2.1 1 (by decide)) (by decide) (by omega) (by decide) (by rw [Int.toNat_natCast]; exact hx) ?_
    refine y_getR dX6_coinsPaid_19 fX6_66 hMb.l0 hMb.2.1 rfl hMb.2.2.2.2.2.1 ?_
    refine z_aload_n dX6_coinsPaid_22 rfl ?_
    refine y_getI dX6_coinsPaid_23 fX6_55 (hB.lt (by decide)) (hB.2.1 0 (by decide)) rfl ?_
    refine z_top ((t : Int)) (hN8) ?_
    refine y_ialoadJ (t) dX6_coinsPaid_26 hMb.l1 hMb.2.2.1 (by omega) (by decide) ?_
    refine z_top (sm (pd M i) 301) (hpt) ?_
    refine z_iadd dX6_coinsPaid_27 ?_
    refine z_istore_n dX6_coinsPaid_28 (by decide) ?_
    refine z_iinc dX6_coinsPaid_29 rfl (by decide) ?_
    refine z_goto 4 dX6_coinsPaid_32 (by decide) ?_
    refine z_keys [0, 1, 2] ?_
    exact ih (i + 1) (by omega) (by omega)
set_option maxHeartbeats 4000000 in
set_option maxRecDepth 100000 in
theorem c_X6_coinsPaid (hB : yB n sh P) {M : Nat → Nat → Int} {t mc rc pc bc c : Nat} {ma pa : Nat → Nat} {Ls : Nat → List Nat} {r rl : Nat} (hO : mOk M t mc rc pc bc c) (hC : cpl n sh I P M t mc rc pc bc ma pa Ls r rl) : yC l E jX6_coinsPaid (rm 0 0) [.ref (zb E + 0)] n sh I P (yR (some (.int (iI (mAll M mc)))) n sh I P) := by
  refine yC_of (by decide) (Nat.le_of_ble_eq_true rfl) ?_
  refine z_iconst dX6_coinsPaid_0 ?_
  refine z_istore_n dX6_coinsPaid_1 (by decide) ?_
  refine z_iconst dX6_coinsPaid_2 ?_
  refine z_istore_n dX6_coinsPaid_3 (by decide) ?_
  refine z_keys [0, 1, 2] ?_
  exact l_X6_coinsPaid hB hO hC 0 (by omega)
set_option maxHeartbeats 4000000 in
set_option maxRecDepth 100000 in
theorem l_X6_coinsBooked (hB : yB n sh P) {M : Nat → Nat → Int} {t mc rc pc bc c : Nat} {ma pa : Nat → Nat} {Ls : Nat → List Nat} {r rl : Nat} (hO : mOk M t mc rc pc bc c) (hC : cpl n sh I P M t mc rc pc bc ma pa Ls r rl) : ∀ i : Nat, i ≤ mc → Z l E jX6_coinsBooked (rm 0 0) (yE E 0 0 (yR (some (.int (iI (mGiv M mc)))) n sh I P)) 0 0 (zw E n sh I P) 4 [(0, .ref (zb E + 0)), (1, .int (iI (mGiv M i))), (2, .int (iI i))] [] := by
  obtain ⟨hN6, hN7, hN8⟩ := hC.1
  have hb5 := hO.2.1
  refine zloop (fun i : Nat => mc - i) (fun i ih hi0 => ?_)
  refine z_iload_n dX6_coinsBooked_4 rfl ?_
  refine z_aload_n dX6_coinsBooked_5 rfl ?_
  refine y_getI dX6_coinsBooked_6 fX6_51 (hB.lt (by decide)) (hB.2.1 0 (by decide)) rfl ?_
  refine z_top ((mc : Int)) (hN6) ?_
  refine z_icmp_ge 30 dX6_coinsBooked_9 (by decide) (by omega) (by omega) (fun c_9 => ?_) (fun c_9 => ?_)
  · have em : i = mc := by omega
    subst em
    refine z_iload_n dX6_coinsBooked_30 rfl ?_
    exact y_ireturn dX6_coinsBooked_31 rfl (yR_rfl)
  · obtain ⟨hx, hMe⟩ := hC.2.2.2.1 i (by omega)
    have hMb := hMe.1
    have hpt : I (ma i + 1) t = sm (pd M i) 301 := by rw [hMe.2.2.1 t (by omega)]; exact (hO.paid (by omega)).symm
    refine z_iload_n dX6_coinsBooked_12 rfl ?_
    refine z_aload_n dX6_coinsBooked_13 rfl ?_
    refine y_getR dX6_coinsBooked_14 fX6_11 (hB.lt (by decide)) (hB.2.1 0 (by decide)) rfl (hB.2.2.1 0) ?_
    refine z_iload_n dX6_coinsBooked_17 rfl ?_
    refine y_aaload dX6_coinsBooked_18 (hB.lt (by decide)) (hB.2.1 1 (by decide)) (by decide) (by omega) (by decide) (by rw [Int.toNat_natCast]; exact hx) ?_
    refine y_getI dX6_coinsBooked_19 fX6_223 hMb.l0 hMb.2.1 rfl ?_
    refine z_top (sm (bk M i) 301) (hMe.2.2.2.2.1) ?_
    refine z_iadd dX6_coinsBooked_22 ?_
    refine z_istore_n dX6_coinsBooked_23 (by decide) ?_
    refine z_iinc dX6_coinsBooked_24 rfl (by decide) ?_
    refine z_goto 4 dX6_coinsBooked_27 (by decide) ?_
    refine z_keys [0, 1, 2] ?_
    exact ih (i + 1) (by omega) (by omega)
set_option maxHeartbeats 4000000 in
set_option maxRecDepth 100000 in
theorem c_X6_coinsBooked (hB : yB n sh P) {M : Nat → Nat → Int} {t mc rc pc bc c : Nat} {ma pa : Nat → Nat} {Ls : Nat → List Nat} {r rl : Nat} (hO : mOk M t mc rc pc bc c) (hC : cpl n sh I P M t mc rc pc bc ma pa Ls r rl) : yC l E jX6_coinsBooked (rm 0 0) [.ref (zb E + 0)] n sh I P (yR (some (.int (iI (mGiv M mc)))) n sh I P) := by
  refine yC_of (by decide) (Nat.le_of_ble_eq_true rfl) ?_
  refine z_iconst dX6_coinsBooked_0 ?_
  refine z_istore_n dX6_coinsBooked_1 (by decide) ?_
  refine z_iconst dX6_coinsBooked_2 ?_
  refine z_istore_n dX6_coinsBooked_3 (by decide) ?_
  refine z_keys [0, 1, 2] ?_
  exact l_X6_coinsBooked hB hO hC 0 (by omega)
set_option maxHeartbeats 4000000 in
set_option maxRecDepth 100000 in
theorem l_X6_membersOut (hB : yB n sh P) {M : Nat → Nat → Int} {t mc rc pc bc c : Nat} {ma pa : Nat → Nat} {Ls : Nat → List Nat} {r rl : Nat} (hO : mOk M t mc rc pc bc c) (hC : cpl n sh I P M t mc rc pc bc ma pa Ls r rl) {I0 : Nat → Nat → Int} (hr : ∀ a, 17 ≤ a → I a = I0 a) (hV : ∀ k w, k < 7 → w ≤ t → bV I k w = vF M (t : Int) rc k w) (h16 : ∀ w, w ≤ t → I 16 w = sm (I 9) w) : ∀ i : Nat, i ≤ mc → Z l E jX6_membersOut (rm 3 70) (yE E 0 0 (kP (.int (iI (mON M t rc mc))) I0 P M t mc rc pc bc rl)) 0 0 (zw E n sh I P) 19 [(0, .ref (zb E + 0)), (1, .int (iI (mON M t rc i))), (2, .int (iI i))] [] := by
  obtain ⟨hN6, hN7, hN8⟩ := hC.1
  have hb5 := hO.2.1
  refine zloop (fun i : Nat => mc - i) (fun i ih hi0 => ?_)
  refine z_iload_n dX6_membersOut_19 rfl ?_
  refine z_aload_n dX6_membersOut_20 rfl ?_
  refine y_getI dX6_membersOut_21 fX6_51 (hB.lt (by decide)) (hB.2.1 0 (by decide)) rfl ?_
  refine z_top ((mc : Int)) (hN6) ?_
  refine z_icmp_ge 60 dX6_membersOut_24 (by decide) (by omega) (by omega) (fun c_24 => ?_) (fun c_24 => ?_)
  · have em : i = mc := by omega
    subst em
    refine z_iload_n dX6_membersOut_60 rfl ?_
    exact y_ireturn dX6_membersOut_61 rfl (kP.ls hB hC hr)
  · obtain ⟨hx, hMe⟩ := hC.2.2.2.1 i (by omega)
    have hMb := hMe.1
    have hg := cpl.go (q := t) hO hC (fun _ _ => rfl) (by omega : i < mc) hV h16 (fun k w hk _ => vF_rng hO.2.2.1.1 hk)
    refine z_aload_n dX6_membersOut_27 rfl ?_
    refine y_getR dX6_membersOut_28 fX6_11 (hB.lt (by decide)) (hB.2.1 0 (by decide)) rfl (hB.2.2.1 0) ?_
    refine z_iload_n dX6_membersOut_31 rfl ?_
    refine y_aaload dX6_membersOut_32 (hB.lt (by decide)) (hB.2.1 1 (by decide)) (by decide) (by omega) (by decide) (by rw [Int.toNat_natCast]; exact hx) ?_
    refine z_aload_n dX6_membersOut_33 rfl ?_
    refine y_getI dX6_membersOut_34 fX6_55 (hB.lt (by decide)) (hB.2.1 0 (by decide)) rfl ?_
    refine z_top ((t : Int)) (hN8) ?_
    refine z_aload_n dX6_membersOut_37 rfl ?_
    refine y_getI dX6_membersOut_38 fX6_55 (hB.lt (by decide)) (hB.2.1 0 (by decide)) rfl ?_
    refine z_top ((t : Int)) (hN8) ?_
    refine z_aload_n dX6_membersOut_41 rfl ?_
    refine y_getR dX6_membersOut_42 fX6_24 (hB.lt (by decide)) (hB.2.1 0 (by decide)) rfl (hB.2.2.1 2) ?_
    refine y_callV dX6_membersOut_45 kX6_159 (c_X2_isOutIn (w := t) (q := t) hB hMb (by omega) (by omega) hg.1.2.1 hg.1.2.2 (hg.2.1 t (by omega)) (hg.2.2.1 6 t (by omega) (by omega)) (hg.2.2.1 0 t (by omega) (by omega))) hMb.l0 hMb.2.1 rfl rfl rfl (Nat.le_of_ble_eq_true rfl) ⟨⟨by decide, by decide⟩, by decide, by decide⟩ (fun v45 n45 sh45 I45 P45 hp45 => ?_)
    obtain ⟨rfl, rfl, rfl, rfl, rfl⟩ := hp45
    rw [← bI_bOu, hg.2.2.2.2.2 t (by omega)]
    refine z_if_eq 54 dX6_membersOut_48 (by decide) (bI_rng _) (fun c_48 => ?_) (fun c_48 => ?_)
    · refine z_iinc dX6_membersOut_54 rfl (by decide) ?_
      refine z_goto 19 dX6_membersOut_57 (by decide) ?_
      refine z_keys [0, 1, 2] ?_
      have h5 := ih (i + 1) (by omega) (by omega)
      unfold mON at h5 ⊢
      rw [sm_succ] at h5
      first | (rw [bI_t (bI_1 c_48)] at h5; exact h5) | (rw [bI_f (bI_0 c_48), Int.add_zero] at h5; exact h5)
    · refine z_iinc dX6_membersOut_51 rfl (by decide) ?_
      refine z_iinc dX6_membersOut_54 rfl (by decide) ?_
      refine z_goto 19 dX6_membersOut_57 (by decide) ?_
      refine z_keys [0, 1, 2] ?_
      have h5 := ih (i + 1) (by omega) (by omega)
      unfold mON at h5 ⊢
      rw [sm_succ] at h5
      first | (rw [bI_t (bI_1 c_48)] at h5; exact h5) | (rw [bI_f (bI_0 c_48), Int.add_zero] at h5; exact h5)
set_option maxHeartbeats 4000000 in
set_option maxRecDepth 100000 in
theorem c_X6_membersOut (hB : yB n sh P) {M : Nat → Nat → Int} {t mc rc pc bc c : Nat} {ma pa : Nat → Nat} {Ls : Nat → List Nat} {r rl : Nat} (hO : mOk M t mc rc pc bc c) (hC : cpl n sh I P M t mc rc pc bc ma pa Ls r rl)  : yC l E jX6_membersOut (rm 3 70) [.ref (zb E + 0)] n sh I P (kP (.int (iI (mON M t rc mc))) I P M t mc rc pc bc rl) := by
  obtain ⟨hN6, hN7, hN8⟩ := hC.1
  have hb5 := hO.2.1
  refine yC_of (by decide) (Nat.le_of_ble_eq_true rfl) ?_
  refine z_aload_n dX6_membersOut_0 rfl ?_
  refine y_getR dX6_membersOut_1 fX6_24 (hB.lt (by decide)) (hB.2.1 0 (by decide)) rfl (hB.2.2.1 2) ?_
  refine z_aload_n dX6_membersOut_4 rfl ?_
  refine y_getI dX6_membersOut_5 fX6_55 (hB.lt (by decide)) (hB.2.1 0 (by decide)) rfl ?_
  refine z_top ((t : Int)) (hN8) ?_
  refine z_aload_n dX6_membersOut_8 rfl ?_
  refine y_getI dX6_membersOut_9 fX6_55 (hB.lt (by decide)) (hB.2.1 0 (by decide)) rfl ?_
  refine z_top ((t : Int)) (hN8) ?_
  refine y_callV dX6_membersOut_12 kX6_70 (c_X4_lookFrom (q := (t : Int)) (T := t) hB hC.2.1.1 (by omega) (cpl.Rl hO hC) hC.2.1.2.2.2.1 (by omega) (by omega)) (hB.lt (by decide)) (hB.2.1 3 (by decide)) rfl rfl rfl (Nat.le_of_ble_eq_true rfl) ⟨⟨by decide, by decide⟩, by decide, by decide⟩ (fun v12 n12 sh12 I12 P12 hp12 => ?_)
  obtain ⟨rfl, rfl, rfl, rfl, h12⟩ := hp12
  obtain ⟨hC2, hV, h16, hr⟩ := cpl.look hO hC h12
  refine z_iconst dX6_membersOut_15 ?_
  refine z_istore_n dX6_membersOut_16 (by decide) ?_
  refine z_iconst dX6_membersOut_17 ?_
  refine z_istore_n dX6_membersOut_18 (by decide) ?_
  refine z_keys [0, 1, 2] ?_
  exact l_X6_membersOut hB hO hC2 hr hV h16 0 (by omega)
set_option maxHeartbeats 4000000 in
set_option maxRecDepth 100000 in
theorem c_X6_count (hB : yB n sh P) {M : Nat → Nat → Int} {t mc rc pc bc c : Nat} {ma pa : Nat → Nat} {Ls : Nat → List Nat} {r rl : Nat} (hO : mOk M t mc rc pc bc c) (hC : cpl n sh I P M t mc rc pc bc ma pa Ls r rl) {a : Int} (ha : (-2147483648 ≤ a ∧ a ≤ 2147483647)) : yC l E jX6_count (rm 4 92) [.ref (zb E + 0), .int (iI a)] n sh I P (kP (.int (iI (mCt M t mc rc pc bc a))) I P M t mc rc pc bc rl) := by
  obtain ⟨hN6, hN7, hN8⟩ := hC.1
  have hb5 := hO.2.1
  refine yC_of (by decide) (Nat.le_of_ble_eq_true rfl) ?_
  refine z_iload_n dX6_count_0 rfl ?_
  rcases (show (a < 0 ∨ 7 < a) ∨ a = 0 ∨ a = 1 ∨ a = 2 ∨ a = 3 ∨ a = 4 ∨ a = 5 ∨ a = 6 ∨ a = 7 by omega) with hsw | hsw | hsw | hsw | hsw | hsw | hsw | hsw | hsw
  · refine z_tabOut 99 dX6_count_1 (by rw [iI_toInt (by omega)]; omega) (by decide) ?_
    refine z_ldc _ dX6_count_99 qX6_65 ?_
    refine y_ireturn dX6_count_101 rfl ?_
    unfold mCt
    first | (rw [if_pos (by omega)]; exact kP.same hB hC) | (rw [if_neg (by omega), if_pos (by omega)]; exact kP.same hB hC) | (rw [if_neg (by omega), if_neg (by omega), if_pos (by omega)]; exact kP.same hB hC) | (rw [if_neg (by omega), if_neg (by omega), if_neg (by omega), if_pos (by omega)]; exact kP.same hB hC) | (rw [if_neg (by omega), if_neg (by omega), if_neg (by omega), if_neg (by omega), if_pos (by omega)]; exact kP.same hB hC) | (rw [if_neg (by omega), if_neg (by omega), if_neg (by omega), if_neg (by omega), if_neg (by omega), if_pos (by omega)]; exact kP.same hB hC) | (rw [if_neg (by omega), if_neg (by omega), if_neg (by omega), if_neg (by omega), if_neg (by omega), if_neg (by omega), if_pos (by omega)]; exact kP.same hB hC) | (rw [if_neg (by omega), if_neg (by omega), if_neg (by omega), if_neg (by omega), if_neg (by omega), if_neg (by omega), if_neg (by omega), if_pos (by omega)]; exact kP.same hB hC) | (rw [if_neg (by omega), if_neg (by omega), if_neg (by omega), if_neg (by omega), if_neg (by omega), if_neg (by omega), if_neg (by omega), if_neg (by omega)]; exact kP.same hB hC)
  · refine z_tabIn 48 0 dX6_count_1 (by rw [iI_toInt (by omega)]; omega) (by decide) (by decide) rfl (by decide) ?_
    refine z_aload_n dX6_count_48 rfl ?_
    refine y_getI dX6_count_49 fX6_55 (hB.lt (by decide)) (hB.2.1 0 (by decide)) rfl ?_
    refine z_top ((t : Int)) (hN8) ?_
    refine y_ireturn dX6_count_52 rfl ?_
    unfold mCt
    first | (rw [if_pos (by omega)]; exact kP.same hB hC) | (rw [if_neg (by omega), if_pos (by omega)]; exact kP.same hB hC) | (rw [if_neg (by omega), if_neg (by omega), if_pos (by omega)]; exact kP.same hB hC) | (rw [if_neg (by omega), if_neg (by omega), if_neg (by omega), if_pos (by omega)]; exact kP.same hB hC) | (rw [if_neg (by omega), if_neg (by omega), if_neg (by omega), if_neg (by omega), if_pos (by omega)]; exact kP.same hB hC) | (rw [if_neg (by omega), if_neg (by omega), if_neg (by omega), if_neg (by omega), if_neg (by omega), if_pos (by omega)]; exact kP.same hB hC) | (rw [if_neg (by omega), if_neg (by omega), if_neg (by omega), if_neg (by omega), if_neg (by omega), if_neg (by omega), if_pos (by omega)]; exact kP.same hB hC) | (rw [if_neg (by omega), if_neg (by omega), if_neg (by omega), if_neg (by omega), if_neg (by omega), if_neg (by omega), if_neg (by omega), if_pos (by omega)]; exact kP.same hB hC) | (rw [if_neg (by omega), if_neg (by omega), if_neg (by omega), if_neg (by omega), if_neg (by omega), if_neg (by omega), if_neg (by omega), if_neg (by omega)]; exact kP.same hB hC)
  · refine z_tabIn 53 1 dX6_count_1 (by rw [iI_toInt (by omega)]; omega) (by decide) (by decide) rfl (by decide) ?_
    refine z_aload_n dX6_count_53 rfl ?_
    refine y_getI dX6_count_54 fX6_51 (hB.lt (by decide)) (hB.2.1 0 (by decide)) rfl ?_
    refine z_top ((mc : Int)) (hN6) ?_
    refine y_ireturn dX6_count_57 rfl ?_
    unfold mCt
    first | (rw [if_pos (by omega)]; exact kP.same hB hC) | (rw [if_neg (by omega), if_pos (by omega)]; exact kP.same hB hC) | (rw [if_neg (by omega), if_neg (by omega), if_pos (by omega)]; exact kP.same hB hC) | (rw [if_neg (by omega), if_neg (by omega), if_neg (by omega), if_pos (by omega)]; exact kP.same hB hC) | (rw [if_neg (by omega), if_neg (by omega), if_neg (by omega), if_neg (by omega), if_pos (by omega)]; exact kP.same hB hC) | (rw [if_neg (by omega), if_neg (by omega), if_neg (by omega), if_neg (by omega), if_neg (by omega), if_pos (by omega)]; exact kP.same hB hC) | (rw [if_neg (by omega), if_neg (by omega), if_neg (by omega), if_neg (by omega), if_neg (by omega), if_neg (by omega), if_pos (by omega)]; exact kP.same hB hC) | (rw [if_neg (by omega), if_neg (by omega), if_neg (by omega), if_neg (by omega), if_neg (by omega), if_neg (by omega), if_neg (by omega), if_pos (by omega)]; exact kP.same hB hC) | (rw [if_neg (by omega), if_neg (by omega), if_neg (by omega), if_neg (by omega), if_neg (by omega), if_neg (by omega), if_neg (by omega), if_neg (by omega)]; exact kP.same hB hC)
  · refine z_tabIn 58 2 dX6_count_1 (by rw [iI_toInt (by omega)]; omega) (by decide) (by decide) rfl (by decide) ?_
    refine z_aload_n dX6_count_58 rfl ?_
    refine y_getR dX6_count_59 fX6_24 (hB.lt (by decide)) (hB.2.1 0 (by decide)) rfl (hB.2.2.1 2) ?_
    refine y_getI dX6_count_62 fX6_94 (hB.lt (by decide)) (hB.2.1 3 (by decide)) rfl ?_
    refine z_top ((rc : Int)) (hC.2.1.1) ?_
    refine y_ireturn dX6_count_65 rfl ?_
    unfold mCt
    first | (rw [if_pos (by omega)]; exact kP.same hB hC) | (rw [if_neg (by omega), if_pos (by omega)]; exact kP.same hB hC) | (rw [if_neg (by omega), if_neg (by omega), if_pos (by omega)]; exact kP.same hB hC) | (rw [if_neg (by omega), if_neg (by omega), if_neg (by omega), if_pos (by omega)]; exact kP.same hB hC) | (rw [if_neg (by omega), if_neg (by omega), if_neg (by omega), if_neg (by omega), if_pos (by omega)]; exact kP.same hB hC) | (rw [if_neg (by omega), if_neg (by omega), if_neg (by omega), if_neg (by omega), if_neg (by omega), if_pos (by omega)]; exact kP.same hB hC) | (rw [if_neg (by omega), if_neg (by omega), if_neg (by omega), if_neg (by omega), if_neg (by omega), if_neg (by omega), if_pos (by omega)]; exact kP.same hB hC) | (rw [if_neg (by omega), if_neg (by omega), if_neg (by omega), if_neg (by omega), if_neg (by omega), if_neg (by omega), if_neg (by omega), if_pos (by omega)]; exact kP.same hB hC) | (rw [if_neg (by omega), if_neg (by omega), if_neg (by omega), if_neg (by omega), if_neg (by omega), if_neg (by omega), if_neg (by omega), if_neg (by omega)]; exact kP.same hB hC)
  · refine z_tabIn 66 3 dX6_count_1 (by rw [iI_toInt (by omega)]; omega) (by decide) (by decide) rfl (by decide) ?_
    refine z_aload_n dX6_count_66 rfl ?_
    refine y_getI dX6_count_67 fX6_97 (hB.lt (by decide)) (hB.2.1 0 (by decide)) rfl ?_
    refine z_top ((pc : Int)) (hN7) ?_
    refine y_ireturn dX6_count_70 rfl ?_
    unfold mCt
    first | (rw [if_pos (by omega)]; exact kP.same hB hC) | (rw [if_neg (by omega), if_pos (by omega)]; exact kP.same hB hC) | (rw [if_neg (by omega), if_neg (by omega), if_pos (by omega)]; exact kP.same hB hC) | (rw [if_neg (by omega), if_neg (by omega), if_neg (by omega), if_pos (by omega)]; exact kP.same hB hC) | (rw [if_neg (by omega), if_neg (by omega), if_neg (by omega), if_neg (by omega), if_pos (by omega)]; exact kP.same hB hC) | (rw [if_neg (by omega), if_neg (by omega), if_neg (by omega), if_neg (by omega), if_neg (by omega), if_pos (by omega)]; exact kP.same hB hC) | (rw [if_neg (by omega), if_neg (by omega), if_neg (by omega), if_neg (by omega), if_neg (by omega), if_neg (by omega), if_pos (by omega)]; exact kP.same hB hC) | (rw [if_neg (by omega), if_neg (by omega), if_neg (by omega), if_neg (by omega), if_neg (by omega), if_neg (by omega), if_neg (by omega), if_pos (by omega)]; exact kP.same hB hC) | (rw [if_neg (by omega), if_neg (by omega), if_neg (by omega), if_neg (by omega), if_neg (by omega), if_neg (by omega), if_neg (by omega), if_neg (by omega)]; exact kP.same hB hC)
  · refine z_tabIn 71 4 dX6_count_1 (by rw [iI_toInt (by omega)]; omega) (by decide) (by decide) rfl (by decide) ?_
    refine z_aload_n dX6_count_71 rfl ?_
    refine y_getR dX6_count_72 fX6_40 (hB.lt (by decide)) (hB.2.1 0 (by decide)) rfl (hB.2.2.1 4) ?_
    refine y_getI dX6_count_75 fX6_127 (hB.lt (by decide)) (hB.2.1 19 (by decide)) rfl ?_
    refine z_top ((bc : Int)) (hC.2.2.2.2.2.2.2.2.2.1.1.1) ?_
    refine y_ireturn dX6_count_78 rfl ?_
    unfold mCt
    first | (rw [if_pos (by omega)]; exact kP.same hB hC) | (rw [if_neg (by omega), if_pos (by omega)]; exact kP.same hB hC) | (rw [if_neg (by omega), if_neg (by omega), if_pos (by omega)]; exact kP.same hB hC) | (rw [if_neg (by omega), if_neg (by omega), if_neg (by omega), if_pos (by omega)]; exact kP.same hB hC) | (rw [if_neg (by omega), if_neg (by omega), if_neg (by omega), if_neg (by omega), if_pos (by omega)]; exact kP.same hB hC) | (rw [if_neg (by omega), if_neg (by omega), if_neg (by omega), if_neg (by omega), if_neg (by omega), if_pos (by omega)]; exact kP.same hB hC) | (rw [if_neg (by omega), if_neg (by omega), if_neg (by omega), if_neg (by omega), if_neg (by omega), if_neg (by omega), if_pos (by omega)]; exact kP.same hB hC) | (rw [if_neg (by omega), if_neg (by omega), if_neg (by omega), if_neg (by omega), if_neg (by omega), if_neg (by omega), if_neg (by omega), if_pos (by omega)]; exact kP.same hB hC) | (rw [if_neg (by omega), if_neg (by omega), if_neg (by omega), if_neg (by omega), if_neg (by omega), if_neg (by omega), if_neg (by omega), if_neg (by omega)]; exact kP.same hB hC)
  · refine z_tabIn 79 5 dX6_count_1 (by rw [iI_toInt (by omega)]; omega) (by decide) (by decide) rfl (by decide) ?_
    refine z_aload_n dX6_count_79 rfl ?_
    refine y_callV dX6_count_80 kX6_214 (c_X6_coinsPaid hB hO hC) (hB.lt (by decide)) (hB.2.1 0 (by decide)) rfl rfl rfl (Nat.le_of_ble_eq_true rfl) ⟨⟨by decide, by decide⟩, by decide, by decide⟩ (fun v80 n80 sh80 I80 P80 hp80 => ?_)
    obtain ⟨rfl, rfl, rfl, rfl, rfl⟩ := hp80
    refine z_aload_n dX6_count_83 rfl ?_
    refine y_callV dX6_count_84 kX6_217 (c_X6_coinsBooked hB hO hC) (hB.lt (by decide)) (hB.2.1 0 (by decide)) rfl rfl rfl (Nat.le_of_ble_eq_true rfl) ⟨⟨by decide, by decide⟩, by decide, by decide⟩ (fun v84 n84 sh84 I84 P84 hp84 => ?_)
    obtain ⟨rfl, rfl, rfl, rfl, rfl⟩ := hp84
    refine z_isub dX6_count_87 ?_
    refine y_ireturn dX6_count_88 rfl ?_
    unfold mCt
    first | (rw [if_pos (by omega)]; exact kP.same hB hC) | (rw [if_neg (by omega), if_pos (by omega)]; exact kP.same hB hC) | (rw [if_neg (by omega), if_neg (by omega), if_pos (by omega)]; exact kP.same hB hC) | (rw [if_neg (by omega), if_neg (by omega), if_neg (by omega), if_pos (by omega)]; exact kP.same hB hC) | (rw [if_neg (by omega), if_neg (by omega), if_neg (by omega), if_neg (by omega), if_pos (by omega)]; exact kP.same hB hC) | (rw [if_neg (by omega), if_neg (by omega), if_neg (by omega), if_neg (by omega), if_neg (by omega), if_pos (by omega)]; exact kP.same hB hC) | (rw [if_neg (by omega), if_neg (by omega), if_neg (by omega), if_neg (by omega), if_neg (by omega), if_neg (by omega), if_pos (by omega)]; exact kP.same hB hC) | (rw [if_neg (by omega), if_neg (by omega), if_neg (by omega), if_neg (by omega), if_neg (by omega), if_neg (by omega), if_neg (by omega), if_pos (by omega)]; exact kP.same hB hC) | (rw [if_neg (by omega), if_neg (by omega), if_neg (by omega), if_neg (by omega), if_neg (by omega), if_neg (by omega), if_neg (by omega), if_neg (by omega)]; exact kP.same hB hC)
  · refine z_tabIn 89 6 dX6_count_1 (by rw [iI_toInt (by omega)]; omega) (by decide) (by decide) rfl (by decide) ?_
    refine z_aload_n dX6_count_89 rfl ?_
    refine y_callV dX6_count_90 kX6_220 (c_X6_membersOut hB hO hC) (hB.lt (by decide)) (hB.2.1 0 (by decide)) rfl rfl rfl (Nat.le_of_ble_eq_true rfl) ⟨⟨by decide, by decide⟩, by decide, by decide⟩ (fun v90 n90 sh90 I90 P90 hp90 => ?_)
    obtain ⟨rfl, hk1, hk2⟩ := hp90
    refine y_ireturn dX6_count_93 rfl ?_
    unfold mCt
    first | (rw [if_pos (by omega)]; exact ⟨rfl, hk1, hk2⟩) | (rw [if_neg (by omega), if_pos (by omega)]; exact ⟨rfl, hk1, hk2⟩) | (rw [if_neg (by omega), if_neg (by omega), if_pos (by omega)]; exact ⟨rfl, hk1, hk2⟩) | (rw [if_neg (by omega), if_neg (by omega), if_neg (by omega), if_pos (by omega)]; exact ⟨rfl, hk1, hk2⟩) | (rw [if_neg (by omega), if_neg (by omega), if_neg (by omega), if_neg (by omega), if_pos (by omega)]; exact ⟨rfl, hk1, hk2⟩) | (rw [if_neg (by omega), if_neg (by omega), if_neg (by omega), if_neg (by omega), if_neg (by omega), if_pos (by omega)]; exact ⟨rfl, hk1, hk2⟩) | (rw [if_neg (by omega), if_neg (by omega), if_neg (by omega), if_neg (by omega), if_neg (by omega), if_neg (by omega), if_pos (by omega)]; exact ⟨rfl, hk1, hk2⟩) | (rw [if_neg (by omega), if_neg (by omega), if_neg (by omega), if_neg (by omega), if_neg (by omega), if_neg (by omega), if_neg (by omega), if_pos (by omega)]; exact ⟨rfl, hk1, hk2⟩) | (rw [if_neg (by omega), if_neg (by omega), if_neg (by omega), if_neg (by omega), if_neg (by omega), if_neg (by omega), if_neg (by omega), if_neg (by omega)]; exact ⟨rfl, hk1, hk2⟩)
  · refine z_tabIn 94 7 dX6_count_1 (by rw [iI_toInt (by omega)]; omega) (by decide) (by decide) rfl (by decide) ?_
    refine z_aload_n dX6_count_94 rfl ?_
    refine y_callV dX6_count_95 kX6_214 (c_X6_coinsPaid hB hO hC) (hB.lt (by decide)) (hB.2.1 0 (by decide)) rfl rfl rfl (Nat.le_of_ble_eq_true rfl) ⟨⟨by decide, by decide⟩, by decide, by decide⟩ (fun v95 n95 sh95 I95 P95 hp95 => ?_)
    obtain ⟨rfl, rfl, rfl, rfl, rfl⟩ := hp95
    refine y_ireturn dX6_count_98 rfl ?_
    unfold mCt
    first | (rw [if_pos (by omega)]; exact kP.same hB hC) | (rw [if_neg (by omega), if_pos (by omega)]; exact kP.same hB hC) | (rw [if_neg (by omega), if_neg (by omega), if_pos (by omega)]; exact kP.same hB hC) | (rw [if_neg (by omega), if_neg (by omega), if_neg (by omega), if_pos (by omega)]; exact kP.same hB hC) | (rw [if_neg (by omega), if_neg (by omega), if_neg (by omega), if_neg (by omega), if_pos (by omega)]; exact kP.same hB hC) | (rw [if_neg (by omega), if_neg (by omega), if_neg (by omega), if_neg (by omega), if_neg (by omega), if_pos (by omega)]; exact kP.same hB hC) | (rw [if_neg (by omega), if_neg (by omega), if_neg (by omega), if_neg (by omega), if_neg (by omega), if_neg (by omega), if_pos (by omega)]; exact kP.same hB hC) | (rw [if_neg (by omega), if_neg (by omega), if_neg (by omega), if_neg (by omega), if_neg (by omega), if_neg (by omega), if_neg (by omega), if_pos (by omega)]; exact kP.same hB hC) | (rw [if_neg (by omega), if_neg (by omega), if_neg (by omega), if_neg (by omega), if_neg (by omega), if_neg (by omega), if_neg (by omega), if_neg (by omega)]; exact kP.same hB hC)
end BCt
