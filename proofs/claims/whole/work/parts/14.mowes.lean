theorem sm_succ (f : Nat → Int) (n : Nat) : sm f (n + 1) = sm f n + f n := rfl
/-- ARREARS by the reference's table row 45 and its payments row 28 -/
def sOw (I : Nat → Nat → Int) (m w q j : Nat) : Int := (if j < w then sm (I 45) w - sm (I 45) j else 0) - sm (fun k => I 28 (301 * m + k)) (min w q + 1)
theorem mul400 {x y : Int} (hx : 0 ≤ x ∧ x ≤ 400) (hy : 0 ≤ y ∧ y ≤ 400) : 0 ≤ x * y ∧ x * y ≤ 160000 := ⟨Int.mul_nonneg hx.1 hy.1, by have h := Int.mul_le_mul hx.2 hy.2 hy.1 (by decide : (0 : Int) ≤ 400); omega⟩
section MO
variable {l : Launch} {E : zEnv} {n : Nat} {sh : Nat → Nat × Nat} {I : Nat → Nat → Int} {P : Nat → Nat → Option Nat}
set_option maxHeartbeats 4000000 in
set_option maxRecDepth 100000 in
theorem l2_X7_owes (hM : yM n sh P) {m w q j : Nat} (hm : m < 40) (hw : w ≤ 300) (hq : I 24 26 = (q : Int)) (hq3 : q ≤ 300) (hj : I 27 m = (j : Int)) (hj3 : j ≤ 300) : ∀ i : Nat, i ≤ min w q + 1 → Z l E jX7_owes (rm 1 22) (yE E 0 0 (yR (some (.int (iI (sOw I m w q j)))) n sh I P)) 0 0 (zw E n sh I P) 35 [(0, .ref (zb E + 24)), (1, .int (iI m)), (2, .int (iI w)), (3, .int (iI ((if j < w then sm (I 45) w - sm (I 45) j else 0) - sm (fun k => I 28 (301 * m + k)) i))), (4, .int (iI i))] [] := by
  refine zloop (fun i : Nat => w + 1 - i) (fun i ih hi0 => ?_)
  refine z_iload dX7_owes_35 rfl ?_
  refine z_iload_n dX7_owes_37 rfl ?_
  refine z_icmp_gt 72 dX7_owes_38 (by decide) (by omega) (by omega) (fun c_38 => ?_) (fun c_38 => ?_)
  · refine z_iload_n dX7_owes_72 rfl ?_
    have e : i = min w q + 1 := by omega
    rw [e]
    exact y_ireturn dX7_owes_73 rfl yR_rfl
  · refine z_iload dX7_owes_41 rfl ?_
    refine z_aload_n dX7_owes_43 rfl ?_
    refine y_getI dX7_owes_44 fX7_107 (hM.lt (by decide)) (hM.2.1 24 (by decide)) rfl ?_
    refine z_icmp_gt 72 dX7_owes_47 (by decide) (by omega) (by omega) (fun c_47 => ?_) (fun c_47 => ?_)
    · refine z_iload_n dX7_owes_72 rfl ?_
      have e : i = min w q + 1 := by omega
      rw [e]
      exact y_ireturn dX7_owes_73 rfl yR_rfl
    · refine z_iload_n dX7_owes_50 rfl ?_
      refine z_aload_n dX7_owes_51 rfl ?_
      refine y_getR dX7_owes_52 fX7_19 (hM.lt (by decide)) (hM.2.1 24 (by decide)) rfl (hM.2.2 8) ?_
      refine z_sipush dX7_owes_55 rfl ?_
      refine z_iload_n dX7_owes_58 rfl ?_
      refine z_imul dX7_owes_59 ?_
      refine z_iload dX7_owes_60 rfl ?_
      refine z_iadd dX7_owes_62 ?_
      refine y_ialoadJ (301 * m + i) dX7_owes_63 (hM.lt (by decide)) (hM.2.1 28 (by decide)) (by omega) (by decide) ?_
      refine z_isub dX7_owes_64 ?_
      refine z_istore_n dX7_owes_65 (by decide) ?_
      refine z_iinc dX7_owes_66 rfl (by decide) ?_
      refine z_goto 35 dX7_owes_69 (by decide) ?_
      refine z_keys [0, 1, 2, 3, 4] ?_
      have h5 := ih (i + 1) (by omega) (by omega)
      rw [sm_succ, ← Int.sub_sub] at h5
      exact h5
set_option maxHeartbeats 4000000 in
set_option maxRecDepth 100000 in
theorem l1_X7_owes (hM : yM n sh P) {m w q j : Nat} (hm : m < 40) (hw : w ≤ 300) (hq : I 24 26 = (q : Int)) (hq3 : q ≤ 300) (hj : I 27 m = (j : Int)) (hj3 : j ≤ 300) : ∀ i : Nat, (j ≤ i ∧ i ≤ max j w) → Z l E jX7_owes (rm 1 22) (yE E 0 0 (yR (some (.int (iI (sOw I m w q j)))) n sh I P)) 0 0 (zw E n sh I P) 10 [(0, .ref (zb E + 24)), (1, .int (iI m)), (2, .int (iI w)), (3, .int (iI (sm (I 45) i - sm (I 45) j))), (4, .int (iI i))] [] := by
  refine zloop (fun i : Nat => 301 - i) (fun i ih hi0 => ?_)
  refine z_iload dX7_owes_10 rfl ?_
  refine z_iload_n dX7_owes_12 rfl ?_
  refine z_icmp_ge 32 dX7_owes_13 (by decide) (by omega) (by omega) (fun c_13 => ?_) (fun c_13 => ?_)
  · refine z_iconst dX7_owes_32 ?_
    refine z_istore dX7_owes_33 (by decide) ?_
    refine z_keys [0, 1, 2, 3, 4] ?_
    have h5 := l2_X7_owes (E := E) (l := l) hM hm hw hq hq3 hj hj3 0 (by omega)
    have e : (if j < w then sm (I 45) w - sm (I 45) j else 0) - sm (fun k => I 28 (301 * m + k)) 0 = sm (I 45) i - sm (I 45) j := by
      show _ - 0 = _
      by_cases h : j < w
      · have e2 : i = w := by omega
        rw [if_pos h, e2]; omega
      · have e2 : i = j := by omega
        rw [if_neg h, e2]; omega
    rw [e] at h5
    exact h5
  · refine z_iload_n dX7_owes_16 rfl ?_
    refine z_aload_n dX7_owes_17 rfl ?_
    refine z_iconst dX7_owes_18 ?_
    refine z_iload dX7_owes_19 rfl ?_
    refine y_callV dX7_owes_21 kX7_114 (c_X7_value (k := 0) (w := i) hM (by omega) (by omega)) (hM.lt (by decide)) (hM.2.1 24 (by decide)) rfl rfl rfl (Nat.le_of_ble_eq_true rfl) ⟨⟨by decide, by decide⟩, by decide, by decide⟩ (fun v21 n21 sh21 I21 P21 hp21 => ?_)
    obtain ⟨rfl, rfl, rfl, rfl, rfl⟩ := hp21
    rw [show 301 * 0 + i = i by omega]
    refine z_iadd dX7_owes_24 ?_
    refine z_istore_n dX7_owes_25 (by decide) ?_
    refine z_iinc dX7_owes_26 rfl (by decide) ?_
    refine z_goto 10 dX7_owes_29 (by decide) ?_
    refine z_keys [0, 1, 2, 3, 4] ?_
    have h5 := ih (i + 1) (by omega) (by omega)
    rw [sm_succ, show sm (I 45) i + I 45 i - sm (I 45) j = sm (I 45) i - sm (I 45) j + I 45 i by omega] at h5
    exact h5
set_option maxHeartbeats 4000000 in
set_option maxRecDepth 100000 in
theorem c_X7_owes (hM : yM n sh P) {m w q j : Nat} (hm : m < 40) (hw : w ≤ 300) (hq : I 24 26 = (q : Int)) (hq3 : q ≤ 300) (hj : I 27 m = (j : Int)) (hj3 : j ≤ 300) : yC l E jX7_owes (rm 1 22) [.ref (zb E + 24), .int (iI m), .int (iI w)] n sh I P (yR (some (.int (iI (sOw I m w q j)))) n sh (I) P) := by
  refine yC_of (by decide) (Nat.le_of_ble_eq_true rfl) ?_
  refine z_iconst dX7_owes_0 ?_
  refine z_istore_n dX7_owes_1 (by decide) ?_
  refine z_aload_n dX7_owes_2 rfl ?_
  refine y_getR dX7_owes_3 fX7_16 (hM.lt (by decide)) (hM.2.1 24 (by decide)) rfl (hM.2.2 7) ?_
  refine z_iload_n dX7_owes_6 rfl ?_
  refine y_ialoadJ (m) dX7_owes_7 (hM.lt (by decide)) (hM.2.1 27 (by decide)) (by omega) (by decide) ?_
  rw [hj]
  refine z_istore dX7_owes_8 (by decide) ?_
  refine z_keys [0, 1, 2, 3, 4] ?_
  have h5 := l1_X7_owes (E := E) (l := l) hM hm hw hq hq3 hj hj3 j (by omega)
  rw [Int.sub_self] at h5
  exact h5
set_option maxHeartbeats 4000000 in
set_option maxRecDepth 100000 in
theorem c_X7_isOut (hM : yM n sh P) {m w q j : Nat} (hm : m < 40) (hw : w ≤ 300) (hq : I 24 26 = (q : Int)) (hq3 : q ≤ 300) (hj : I 27 m = (j : Int)) (hj3 : j ≤ 300) (hO : -2147483648 ≤ sOw I m w q j ∧ sOw I m w q j ≤ 2147483647) (h6 : 0 ≤ I 45 (301 * 6 + w) ∧ I 45 (301 * 6 + w) ≤ 400) (h0 : 0 ≤ I 45 w ∧ I 45 w ≤ 400) : yC l E jX7_isOut (rm 2 46) [.ref (zb E + 24), .int (iI m), .int (iI w)] n sh I P (yR (some (.int (iI (bI (I 45 (301 * 6 + w) * I 45 w < sOw I m w q j))))) n sh (I) P) := by
  refine yC_of (by decide) (Nat.le_of_ble_eq_true rfl) ?_
  refine z_aload_n dX7_isOut_0 rfl ?_
  refine z_iload_n dX7_isOut_1 rfl ?_
  refine z_iload_n dX7_isOut_2 rfl ?_
  refine y_callV dX7_isOut_3 kX7_118 (c_X7_owes hM hm hw hq hq3 hj hj3) (hM.lt (by decide)) (hM.2.1 24 (by decide)) rfl rfl rfl (Nat.le_of_ble_eq_true rfl) ⟨⟨by decide, by decide⟩, by decide, by decide⟩ (fun v3 n3 sh3 I3 P3 hp3 => ?_)
  obtain ⟨rfl, rfl, rfl, rfl, rfl⟩ := hp3
  refine z_aload_n dX7_isOut_6 rfl ?_
  refine z_bipush dX7_isOut_7 rfl ?_
  refine z_iload_n dX7_isOut_9 rfl ?_
  refine y_callV dX7_isOut_10 kX7_114 (c_X7_value (k := 6) (w := w) hM (by omega) (by omega)) (hM.lt (by decide)) (hM.2.1 24 (by decide)) rfl rfl rfl (Nat.le_of_ble_eq_true rfl) ⟨⟨by decide, by decide⟩, by decide, by decide⟩ (fun v10 n10 sh10 I10 P10 hp10 => ?_)
  obtain ⟨rfl, rfl, rfl, rfl, rfl⟩ := hp10
  refine z_aload_n dX7_isOut_13 rfl ?_
  refine z_iconst dX7_isOut_14 ?_
  refine z_iload_n dX7_isOut_15 rfl ?_
  refine y_callV dX7_isOut_16 kX7_114 (c_X7_value (k := 0) (w := w) hM (by omega) (by omega)) (hM.lt (by decide)) (hM.2.1 24 (by decide)) rfl rfl rfl (Nat.le_of_ble_eq_true rfl) ⟨⟨by decide, by decide⟩, by decide, by decide⟩ (fun v16 n16 sh16 I16 P16 hp16 => ?_)
  obtain ⟨rfl, rfl, rfl, rfl, rfl⟩ := hp16
  rw [show 301 * 0 + w = w by omega]
  have hmul := mul400 h6 h0
  refine z_imul dX7_isOut_19 ?_
  refine z_icmp_le 27 dX7_isOut_20 (by decide) (by omega) (by omega) (fun c_20 => ?_) (fun c_20 => ?_)
  · refine z_iconst dX7_isOut_27 ?_
    refine y_zreturn dX7_isOut_28 rfl (by decide) ?_
    first | (rw [bI_t (by omega)]; exact yR_rfl) | (rw [bI_f (by omega)]; exact yR_rfl)
  · refine z_iconst dX7_isOut_23 ?_
    refine z_goto 28 dX7_isOut_24 (by decide) ?_
    refine y_zreturn dX7_isOut_28 rfl (by decide) ?_
    first | (rw [bI_t (by omega)]; exact yR_rfl) | (rw [bI_f (by omega)]; exact yR_rfl)
set_option maxHeartbeats 4000000 in
set_option maxRecDepth 100000 in
theorem l_X7_paidBy (hM : yM n sh P) {m : Nat} (hm : m < 40) : ∀ i : Nat, i ≤ 301 → Z l E jX7_paidBy (rm 0 0) (yE E 0 0 (yR (some (.int (iI (sm (fun k => I 28 (301 * m + k)) 301)))) n sh I P)) 0 0 (zw E n sh I P) 4 [(0, .ref (zb E + 24)), (1, .int (iI m)), (2, .int (iI (sm (fun k => I 28 (301 * m + k)) i))), (3, .int (iI i))] [] := by
  refine zloop (fun i : Nat => 301 - i) (fun i ih hi0 => ?_)
  refine z_iload_n dX7_paidBy_4 rfl ?_
  refine z_sipush dX7_paidBy_5 rfl ?_
  refine z_icmp_ge 32 dX7_paidBy_8 (by decide) (by omega) (by omega) (fun c_8 => ?_) (fun c_8 => ?_)
  · have e : i = 301 := by omega
    subst e
    refine z_iload_n dX7_paidBy_32 rfl ?_
    exact y_ireturn dX7_paidBy_33 rfl (yR_rfl)
  · refine z_iload_n dX7_paidBy_11 rfl ?_
    refine z_aload_n dX7_paidBy_12 rfl ?_
    refine y_getR dX7_paidBy_13 fX7_19 (hM.lt (by decide)) (hM.2.1 24 (by decide)) rfl (hM.2.2 8) ?_
    refine z_sipush dX7_paidBy_16 rfl ?_
    refine z_iload_n dX7_paidBy_19 rfl ?_
    refine z_imul dX7_paidBy_20 ?_
    refine z_iload_n dX7_paidBy_21 rfl ?_
    refine z_iadd dX7_paidBy_22 ?_
    refine y_ialoadJ (301 * m + i) dX7_paidBy_23 (hM.lt (by decide)) (hM.2.1 28 (by decide)) (by omega) (by decide) ?_
    refine z_iadd dX7_paidBy_24 ?_
    refine z_istore_n dX7_paidBy_25 (by decide) ?_
    refine z_iinc dX7_paidBy_26 rfl (by decide) ?_
    refine z_goto 4 dX7_paidBy_29 (by decide) ?_
    refine z_keys [0, 1, 2, 3] ?_
    exact ih (i + 1) (by omega) (by omega)
set_option maxHeartbeats 4000000 in
set_option maxRecDepth 100000 in
theorem c_X7_paidBy (hM : yM n sh P) {m : Nat} (hm : m < 40) : yC l E jX7_paidBy (rm 0 0) [.ref (zb E + 24), .int (iI m)] n sh I P (yR (some (.int (iI (sm (fun k => I 28 (301 * m + k)) 301)))) n sh (I) P) := by
  refine yC_of (by decide) (Nat.le_of_ble_eq_true rfl) ?_
  refine z_iconst dX7_paidBy_0 ?_
  refine z_istore_n dX7_paidBy_1 (by decide) ?_
  refine z_iconst dX7_paidBy_2 ?_
  refine z_istore_n dX7_paidBy_3 (by decide) ?_
  refine z_keys [0, 1, 2, 3] ?_
  exact l_X7_paidBy hM hm 0 (by omega)
set_option maxHeartbeats 4000000 in
set_option maxRecDepth 100000 in
theorem l_X7_bookedFor (hM : yM n sh P) {m : Nat} (hm : m < 40) : ∀ i : Nat, i ≤ 301 → Z l E jX7_bookedFor (rm 0 0) (yE E 0 0 (yR (some (.int (iI (sm (fun k => I 38 (301 * m + k)) 301)))) n sh I P)) 0 0 (zw E n sh I P) 4 [(0, .ref (zb E + 24)), (1, .int (iI m)), (2, .int (iI (sm (fun k => I 38 (301 * m + k)) i))), (3, .int (iI i))] [] := by
  refine zloop (fun i : Nat => 301 - i) (fun i ih hi0 => ?_)
  refine z_iload_n dX7_bookedFor_4 rfl ?_
  refine z_sipush dX7_bookedFor_5 rfl ?_
  refine z_icmp_ge 32 dX7_bookedFor_8 (by decide) (by omega) (by omega) (fun c_8 => ?_) (fun c_8 => ?_)
  · have e : i = 301 := by omega
    subst e
    refine z_iload_n dX7_bookedFor_32 rfl ?_
    exact y_ireturn dX7_bookedFor_33 rfl (yR_rfl)
  · refine z_iload_n dX7_bookedFor_11 rfl ?_
    refine z_aload_n dX7_bookedFor_12 rfl ?_
    refine y_getR dX7_bookedFor_13 fX7_49 (hM.lt (by decide)) (hM.2.1 24 (by decide)) rfl (hM.2.2 18) ?_
    refine z_sipush dX7_bookedFor_16 rfl ?_
    refine z_iload_n dX7_bookedFor_19 rfl ?_
    refine z_imul dX7_bookedFor_20 ?_
    refine z_iload_n dX7_bookedFor_21 rfl ?_
    refine z_iadd dX7_bookedFor_22 ?_
    refine y_ialoadJ (301 * m + i) dX7_bookedFor_23 (hM.lt (by decide)) (hM.2.1 38 (by decide)) (by omega) (by decide) ?_
    refine z_iadd dX7_bookedFor_24 ?_
    refine z_istore_n dX7_bookedFor_25 (by decide) ?_
    refine z_iinc dX7_bookedFor_26 rfl (by decide) ?_
    refine z_goto 4 dX7_bookedFor_29 (by decide) ?_
    refine z_keys [0, 1, 2, 3] ?_
    exact ih (i + 1) (by omega) (by omega)
set_option maxHeartbeats 4000000 in
set_option maxRecDepth 100000 in
theorem c_X7_bookedFor (hM : yM n sh P) {m : Nat} (hm : m < 40) : yC l E jX7_bookedFor (rm 0 0) [.ref (zb E + 24), .int (iI m)] n sh I P (yR (some (.int (iI (sm (fun k => I 38 (301 * m + k)) 301)))) n sh (I) P) := by
  refine yC_of (by decide) (Nat.le_of_ble_eq_true rfl) ?_
  refine z_iconst dX7_bookedFor_0 ?_
  refine z_istore_n dX7_bookedFor_1 (by decide) ?_
  refine z_iconst dX7_bookedFor_2 ?_
  refine z_istore_n dX7_bookedFor_3 (by decide) ?_
  refine z_keys [0, 1, 2, 3] ?_
  exact l_X7_bookedFor hM hm 0 (by omega)
end MO
