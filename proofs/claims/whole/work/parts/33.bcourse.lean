/-- beginIllness(w) -/
def bil (I : Nat → Nat → Int) (w : Nat) : Nat → Nat → Int := zup (zup (zup (zup I 17 6 0) 17 7 (I 10 w)) 17 8 (I 10 w + I 12 w)) 17 9 (I 10 w + I 12 w + I 13 w)
/-- the rest of goTo(d), behind its question for a new ILLNESS -/
def gT1 (J : Nat → Nat → Int) (d w : Nat) (ou : Int) : Nat → Nat → Int := if (w : Int) = J 17 10 then zup (zup J 17 4 d) 17 6 (J 17 6 + 1) else zup (zup (zup (zup J 17 4 d) 17 6 (J 17 6 + 1)) 17 10 w) 17 11 ou
def gT2 (J : Nat → Nat → Int) (d w : Nat) (ou : Int) : Nat → Nat → Int := zup (gT1 J d w ou) 17 5 (if gT1 J d w ou 17 11 = 0 then nat5 (gT1 J d w ou 17 7) (gT1 J d w ou 17 8) (gT1 J d w ou 17 9) (gT1 J d w ou 17 6) else 5)
/-- goTo(d) -/
def gT (I : Nat → Nat → Int) (d w : Nat) (ou : Int) : Nat → Nat → Int := gT2 (if I 17 4 = -1 ∨ I 14 w < (d : Int) - I 17 4 - 1 then bil I w else I) d w ou
def coiN (nt r : Int) : Int := if nt = 2 then r else if nt = 3 then r.tdiv 2 else if nt = 4 then r.tdiv 4 else 0
theorem bil_row {I : Nat → Nat → Int} {w a : Nat} (h : a ≠ 17) : bil I w a = I a := by unfold bil; rw [zup_ne h, zup_ne h, zup_ne h, zup_ne h]
theorem gT1_row {I : Nat → Nat → Int} {d w a : Nat} {ou : Int} (h : a ≠ 17) : gT1 I d w ou a = I a := by
  unfold gT1
  split
  · rw [zup_ne h, zup_ne h]
  · rw [zup_ne h, zup_ne h, zup_ne h, zup_ne h]
theorem gT_row {I : Nat → Nat → Int} {d w a : Nat} {ou : Int} (h : a ≠ 17) : gT I d w ou a = I a := by
  unfold gT gT2
  rw [zup_ne h, gT1_row h]
  split
  · exact bil_row h
  · rfl
section BC
variable {l : Launch} {E : zEnv} {n : Nat} {sh : Nat → Nat × Nat} {I : Nat → Nat → Int} {P : Nat → Nat → Option Nat}
set_option maxHeartbeats 4000000 in
set_option maxRecDepth 100000 in
theorem c_X0_begin (hB : yB n sh P) {a : Nat} {q : Int} : yC l E jX0_begin (rm 0 0) [.ref (zb E + 17), .ref (zb E + a), .int (iI q)] n sh I P (yR none n sh (zup (zup (zup (zup (zup I 17 3 q) 17 4 (-1)) 17 5 0) 17 6 0) 17 10 (-1)) (zpu P 17 2 (some a))) := by
  refine yC_of (by decide) (Nat.le_of_ble_eq_true rfl) ?_
  refine z_aload_n dX0_begin_0 rfl ?_
  refine z_aload_n dX0_begin_1 rfl ?_
  refine y_putR dX0_begin_2 fX0_75 (hB.lt (by decide)) (hB.2.1 17 (by decide)) rfl rfl rfl ?_
  refine z_aload_n dX0_begin_5 rfl ?_
  refine z_iload_n dX0_begin_6 rfl ?_
  refine y_putI dX0_begin_7 fX0_79 (hB.lt (by decide)) (hB.2.1 17 (by decide)) rfl ?_
  refine z_aload_n dX0_begin_10 rfl ?_
  refine z_iconst dX0_begin_11 ?_
  refine y_putI dX0_begin_12 fX0_27 (hB.lt (by decide)) (hB.2.1 17 (by decide)) rfl ?_
  refine z_aload_n dX0_begin_15 rfl ?_
  refine z_iconst dX0_begin_16 ?_
  refine y_putI dX0_begin_17 fX0_31 (hB.lt (by decide)) (hB.2.1 17 (by decide)) rfl ?_
  refine z_aload_n dX0_begin_20 rfl ?_
  refine z_iconst dX0_begin_21 ?_
  refine y_putI dX0_begin_22 fX0_82 (hB.lt (by decide)) (hB.2.1 17 (by decide)) rfl ?_
  refine z_aload_n dX0_begin_25 rfl ?_
  refine z_iconst dX0_begin_26 ?_
  refine y_putI dX0_begin_27 fX0_85 (hB.lt (by decide)) (hB.2.1 17 (by decide)) rfl ?_
  exact y_return dX0_begin_30 rfl (yR_rfl)
set_option maxHeartbeats 4000000 in
set_option maxRecDepth 100000 in
theorem c_X0_beginIllness (hB : yB n sh P) {w : Nat} (hw : w ≤ 300) : yC l E jX0_beginIllness (rm 0 0) [.ref (zb E + 17), .int (iI w)] n sh I P (yR (none) n sh (bil I w) P) := by
  refine yC_of (by decide) (Nat.le_of_ble_eq_true rfl) ?_
  refine z_aload_n dX0_beginIllness_0 rfl ?_
  refine z_iconst dX0_beginIllness_1 ?_
  refine y_putI dX0_beginIllness_2 fX0_82 (hB.lt (by decide)) (hB.2.1 17 (by decide)) rfl ?_
  refine z_aload_n dX0_beginIllness_5 rfl ?_
  refine z_aload_n dX0_beginIllness_6 rfl ?_
  refine y_getR dX0_beginIllness_7 fX0_15 (hB.lt (by decide)) (hB.2.1 17 (by decide)) rfl (hB.2.2.2.2.2.1 0 (by decide)) ?_
  refine y_getR dX0_beginIllness_10 fX0_88 (hB.lt (by decide)) (hB.2.1 3 (by decide)) rfl (hB.2.2.2.1 5) ?_
  refine z_iconst dX0_beginIllness_13 ?_
  refine y_aaload dX0_beginIllness_14 (hB.lt (by decide)) (hB.2.1 8 (by decide)) (by decide) (by omega) (by decide) (show P 8 1 = some 10 from hB.2.2.2.2.1 1 (by decide)) ?_
  refine z_iload_n dX0_beginIllness_15 rfl ?_
  refine y_ialoadJ (w) dX0_beginIllness_16 (hB.lt (by decide)) (hB.2.1 10 (by decide)) (by omega) (by decide) ?_
  refine z_top (I 10 w) (by rw [zup_ne (by decide)]) ?_
  refine y_putI dX0_beginIllness_17 fX0_109 (hB.lt (by decide)) (hB.2.1 17 (by decide)) rfl ?_
  refine z_aload_n dX0_beginIllness_20 rfl ?_
  refine z_aload_n dX0_beginIllness_21 rfl ?_
  refine y_getI dX0_beginIllness_22 fX0_109 (hB.lt (by decide)) (hB.2.1 17 (by decide)) rfl ?_
  refine z_top (I 10 w) (by simp [zup]) ?_
  refine z_aload_n dX0_beginIllness_25 rfl ?_
  refine y_getR dX0_beginIllness_26 fX0_15 (hB.lt (by decide)) (hB.2.1 17 (by decide)) rfl (hB.2.2.2.2.2.1 0 (by decide)) ?_
  refine y_getR dX0_beginIllness_29 fX0_88 (hB.lt (by decide)) (hB.2.1 3 (by decide)) rfl (hB.2.2.2.1 5) ?_
  refine z_iconst dX0_beginIllness_32 ?_
  refine y_aaload dX0_beginIllness_33 (hB.lt (by decide)) (hB.2.1 8 (by decide)) (by decide) (by omega) (by decide) (show P 8 3 = some 12 from hB.2.2.2.2.1 3 (by decide)) ?_
  refine z_iload_n dX0_beginIllness_34 rfl ?_
  refine y_ialoadJ (w) dX0_beginIllness_35 (hB.lt (by decide)) (hB.2.1 12 (by decide)) (by omega) (by decide) ?_
  refine z_top (I 12 w) (by rw [zup_ne (by decide), zup_ne (by decide)]) ?_
  refine z_iadd dX0_beginIllness_36 ?_
  refine y_putI dX0_beginIllness_37 fX0_112 (hB.lt (by decide)) (hB.2.1 17 (by decide)) rfl ?_
  refine z_aload_n dX0_beginIllness_40 rfl ?_
  refine z_aload_n dX0_beginIllness_41 rfl ?_
  refine y_getI dX0_beginIllness_42 fX0_112 (hB.lt (by decide)) (hB.2.1 17 (by decide)) rfl ?_
  refine z_top (I 10 w + I 12 w) (by simp [zup]) ?_
  refine z_aload_n dX0_beginIllness_45 rfl ?_
  refine y_getR dX0_beginIllness_46 fX0_15 (hB.lt (by decide)) (hB.2.1 17 (by decide)) rfl (hB.2.2.2.2.2.1 0 (by decide)) ?_
  refine y_getR dX0_beginIllness_49 fX0_88 (hB.lt (by decide)) (hB.2.1 3 (by decide)) rfl (hB.2.2.2.1 5) ?_
  refine z_iconst dX0_beginIllness_52 ?_
  refine y_aaload dX0_beginIllness_53 (hB.lt (by decide)) (hB.2.1 8 (by decide)) (by decide) (by omega) (by decide) (show P 8 4 = some 13 from hB.2.2.2.2.1 4 (by decide)) ?_
  refine z_iload_n dX0_beginIllness_54 rfl ?_
  refine y_ialoadJ (w) dX0_beginIllness_55 (hB.lt (by decide)) (hB.2.1 13 (by decide)) (by omega) (by decide) ?_
  refine z_top (I 13 w) (by rw [zup_ne (by decide), zup_ne (by decide), zup_ne (by decide)]) ?_
  refine z_iadd dX0_beginIllness_56 ?_
  refine y_putI dX0_beginIllness_57 fX0_115 (hB.lt (by decide)) (hB.2.1 17 (by decide)) rfl ?_
  exact y_return dX0_beginIllness_60 rfl (yR_rfl)
set_option maxHeartbeats 4000000 in
set_option maxRecDepth 100000 in
theorem c_X0_natureOfNth (hB : yB n sh P) (h6 : 0 ≤ I 17 6 ∧ I 17 6 ≤ 3000) (h7 : 0 ≤ I 17 7 ∧ I 17 7 ≤ 3000) (h8 : 0 ≤ I 17 8 ∧ I 17 8 ≤ 3000) (h9 : 0 ≤ I 17 9 ∧ I 17 9 ≤ 3000) : yC l E jX0_natureOfNth (rm 0 0) [.ref (zb E + 17)] n sh I P (yR (some (.int (iI (nat5 (I 17 7) (I 17 8) (I 17 9) (I 17 6))))) n sh (I) P) := by
  refine yC_of (by decide) (Nat.le_of_ble_eq_true rfl) ?_
  refine z_aload_n dX0_natureOfNth_0 rfl ?_
  refine y_getI dX0_natureOfNth_1 fX0_82 (hB.lt (by decide)) (hB.2.1 17 (by decide)) rfl ?_
  refine z_aload_n dX0_natureOfNth_4 rfl ?_
  refine y_getI dX0_natureOfNth_5 fX0_109 (hB.lt (by decide)) (hB.2.1 17 (by decide)) rfl ?_
  refine z_icmp_gt 13 dX0_natureOfNth_8 (by decide) (by omega) (by omega) (fun c_8 => ?_) (fun c_8 => ?_)
  · refine z_aload_n dX0_natureOfNth_13 rfl ?_
    refine y_getI dX0_natureOfNth_14 fX0_82 (hB.lt (by decide)) (hB.2.1 17 (by decide)) rfl ?_
    refine z_aload_n dX0_natureOfNth_17 rfl ?_
    refine y_getI dX0_natureOfNth_18 fX0_112 (hB.lt (by decide)) (hB.2.1 17 (by decide)) rfl ?_
    refine z_icmp_gt 26 dX0_natureOfNth_21 (by decide) (by omega) (by omega) (fun c_21 => ?_) (fun c_21 => ?_)
    · refine z_aload_n dX0_natureOfNth_26 rfl ?_
      refine y_getI dX0_natureOfNth_27 fX0_82 (hB.lt (by decide)) (hB.2.1 17 (by decide)) rfl ?_
      refine z_aload_n dX0_natureOfNth_30 rfl ?_
      refine y_getI dX0_natureOfNth_31 fX0_115 (hB.lt (by decide)) (hB.2.1 17 (by decide)) rfl ?_
      refine z_icmp_gt 41 dX0_natureOfNth_34 (by decide) (by omega) (by omega) (fun c_34 => ?_) (fun c_34 => ?_)
      · refine z_iconst dX0_natureOfNth_41 ?_
        refine y_ireturn dX0_natureOfNth_42 rfl ?_
        unfold nat5
        first | (rw [if_pos (by omega)]; exact yR_rfl) | (rw [if_neg (by omega), if_pos (by omega)]; exact yR_rfl) | (rw [if_neg (by omega), if_neg (by omega), if_pos (by omega)]; exact yR_rfl) | (rw [if_neg (by omega), if_neg (by omega), if_neg (by omega)]; exact yR_rfl)
      · refine z_iconst dX0_natureOfNth_37 ?_
        refine z_goto 42 dX0_natureOfNth_38 (by decide) ?_
        refine y_ireturn dX0_natureOfNth_42 rfl ?_
        unfold nat5
        first | (rw [if_pos (by omega)]; exact yR_rfl) | (rw [if_neg (by omega), if_pos (by omega)]; exact yR_rfl) | (rw [if_neg (by omega), if_neg (by omega), if_pos (by omega)]; exact yR_rfl) | (rw [if_neg (by omega), if_neg (by omega), if_neg (by omega)]; exact yR_rfl)
    · refine z_iconst dX0_natureOfNth_24 ?_
      refine y_ireturn dX0_natureOfNth_25 rfl ?_
      unfold nat5
      first | (rw [if_pos (by omega)]; exact yR_rfl) | (rw [if_neg (by omega), if_pos (by omega)]; exact yR_rfl) | (rw [if_neg (by omega), if_neg (by omega), if_pos (by omega)]; exact yR_rfl) | (rw [if_neg (by omega), if_neg (by omega), if_neg (by omega)]; exact yR_rfl)
  · refine z_iconst dX0_natureOfNth_11 ?_
    refine y_ireturn dX0_natureOfNth_12 rfl ?_
    unfold nat5
    first | (rw [if_pos (by omega)]; exact yR_rfl) | (rw [if_neg (by omega), if_pos (by omega)]; exact yR_rfl) | (rw [if_neg (by omega), if_neg (by omega), if_pos (by omega)]; exact yR_rfl) | (rw [if_neg (by omega), if_neg (by omega), if_neg (by omega)]; exact yR_rfl)
set_option maxHeartbeats 4000000 in
set_option maxRecDepth 100000 in
theorem c_X0_coins (hB : yB n sh P) {w : Nat} (hw : w ≤ 300) (h5 : 0 ≤ I 17 5 ∧ I 17 5 ≤ 5) (hr : 0 ≤ I 11 w ∧ I 11 w ≤ 400) : yC l E jX0_coins (rm 0 0) [.ref (zb E + 17), .int (iI w)] n sh I P (yR (some (.int (iI (coiN (I 17 5) (I 11 w))))) n sh (I) P) := by
  refine yC_of (by decide) (Nat.le_of_ble_eq_true rfl) ?_
  refine z_aload_n dX0_coins_0 rfl ?_
  refine y_getR dX0_coins_1 fX0_15 (hB.lt (by decide)) (hB.2.1 17 (by decide)) rfl (hB.2.2.2.2.2.1 0 (by decide)) ?_
  refine y_getR dX0_coins_4 fX0_88 (hB.lt (by decide)) (hB.2.1 3 (by decide)) rfl (hB.2.2.2.1 5) ?_
  refine z_iconst dX0_coins_7 ?_
  refine y_aaload dX0_coins_8 (hB.lt (by decide)) (hB.2.1 8 (by decide)) (by decide) (by omega) (by decide) (show P 8 2 = some 11 from hB.2.2.2.2.1 2 (by decide)) ?_
  refine z_iload_n dX0_coins_9 rfl ?_
  refine y_ialoadJ (w) dX0_coins_10 (hB.lt (by decide)) (hB.2.1 11 (by decide)) (by omega) (by decide) ?_
  refine z_istore_n dX0_coins_11 (by decide) ?_
  refine z_aload_n dX0_coins_12 rfl ?_
  refine y_getI dX0_coins_13 fX0_31 (hB.lt (by decide)) (hB.2.1 17 (by decide)) rfl ?_
  rcases (show (I 17 5 < 2 ∨ 4 < I 17 5) ∨ I 17 5 = 2 ∨ I 17 5 = 3 ∨ I 17 5 = 4 by omega) with hsw | hsw | hsw | hsw
  · refine z_tabOut 54 dX0_coins_16 (by rw [iI_toInt (by omega)]; omega) (by decide) ?_
    refine z_iconst dX0_coins_54 ?_
    refine y_ireturn dX0_coins_55 rfl ?_
    unfold coiN
    first | (rw [if_pos (by omega)]; exact yR_rfl) | (rw [if_neg (by omega), if_pos (by omega)]; exact yR_rfl) | (rw [if_neg (by omega), if_neg (by omega), if_pos (by omega)]; exact yR_rfl) | (rw [if_neg (by omega), if_neg (by omega), if_neg (by omega)]; exact yR_rfl)
  · refine z_tabIn 44 2 dX0_coins_16 (by rw [iI_toInt (by omega)]; omega) (by decide) (by decide) rfl (by decide) ?_
    refine z_iload_n dX0_coins_44 rfl ?_
    refine y_ireturn dX0_coins_45 rfl ?_
    unfold coiN
    first | (rw [if_pos (by omega)]; exact yR_rfl) | (rw [if_neg (by omega), if_pos (by omega)]; exact yR_rfl) | (rw [if_neg (by omega), if_neg (by omega), if_pos (by omega)]; exact yR_rfl) | (rw [if_neg (by omega), if_neg (by omega), if_neg (by omega)]; exact yR_rfl)
  · refine z_tabIn 46 3 dX0_coins_16 (by rw [iI_toInt (by omega)]; omega) (by decide) (by decide) rfl (by decide) ?_
    refine z_iload_n dX0_coins_46 rfl ?_
    refine z_iconst dX0_coins_47 ?_
    refine z_idiv dX0_coins_48 (by omega) (by omega) ?_
    refine y_ireturn dX0_coins_49 rfl ?_
    unfold coiN
    first | (rw [if_pos (by omega)]; exact yR_rfl) | (rw [if_neg (by omega), if_pos (by omega)]; exact yR_rfl) | (rw [if_neg (by omega), if_neg (by omega), if_pos (by omega)]; exact yR_rfl) | (rw [if_neg (by omega), if_neg (by omega), if_neg (by omega)]; exact yR_rfl)
  · refine z_tabIn 50 4 dX0_coins_16 (by rw [iI_toInt (by omega)]; omega) (by decide) (by decide) rfl (by decide) ?_
    refine z_iload_n dX0_coins_50 rfl ?_
    refine z_iconst dX0_coins_51 ?_
    refine z_idiv dX0_coins_52 (by omega) (by omega) ?_
    refine y_ireturn dX0_coins_53 rfl ?_
    unfold coiN
    first | (rw [if_pos (by omega)]; exact yR_rfl) | (rw [if_neg (by omega), if_pos (by omega)]; exact yR_rfl) | (rw [if_neg (by omega), if_neg (by omega), if_pos (by omega)]; exact yR_rfl) | (rw [if_neg (by omega), if_neg (by omega), if_neg (by omega)]; exact yR_rfl)
set_option maxHeartbeats 4000000 in
set_option maxRecDepth 100000 in
theorem l88_X0_goTo (hB : yB n sh P) {a : Nat} (hMb : yMb n sh P a) (hsi : P 17 2 = some a) {d w q j : Nat} (hd : d ≤ 2106) (hw : w = d / 7) (hq : I 17 3 = (q : Int)) (hq3 : q ≤ 300) (hj : I a 2 = (j : Int)) (hj3 : j ≤ 300) (hO : -2147483648 ≤ bAr I a w q j ∧ bAr I a w q j ≤ 2147483647) (hs6 : 0 ≤ I 15 w ∧ I 15 w ≤ 400) (hs0 : 0 ≤ I 9 w ∧ I 9 w ≤ 400) (h6 : 0 ≤ I 17 6 ∧ I 17 6 ≤ 2107) (h7 : 0 ≤ I 17 7 ∧ I 17 7 ≤ 3000) (h8 : 0 ≤ I 17 8 ∧ I 17 8 ≤ 3000) (h9 : 0 ≤ I 17 9 ∧ I 17 9 ≤ 3000) (h10 : -1 ≤ I 17 10 ∧ I 17 10 ≤ 300) (h11 : I 17 11 = 0 ∨ I 17 11 = 1) : Z l E jX0_goTo (rm 3 70) (yE E 0 0 (yR none n sh (gT2 I d w (bI (I 15 w * I 9 w < bAr I a w q j))) P)) 0 0 (zw E n sh (gT1 I d w (bI (I 15 w * I 9 w < bAr I a w q j))) P) 88 [(0, .ref (zb E + 17)), (1, .int (iI d)), (2, .int (iI w))] [] := by
  have g11 : (gT1 I d w (bI (I 15 w * I 9 w < bAr I a w q j))) 17 11 = 0 ∨ (gT1 I d w (bI (I 15 w * I 9 w < bAr I a w q j))) 17 11 = 1 := by
    unfold gT1; split
    · simp [zup]; exact h11
    · simp [zup]; exact bI_or _
  have g6 : (gT1 I d w (bI (I 15 w * I 9 w < bAr I a w q j))) 17 6 = I 17 6 + 1 := by unfold gT1; split <;> simp [zup]
  have g7 : (gT1 I d w (bI (I 15 w * I 9 w < bAr I a w q j))) 17 7 = I 17 7 := by unfold gT1; split <;> simp [zup]
  have g8 : (gT1 I d w (bI (I 15 w * I 9 w < bAr I a w q j))) 17 8 = I 17 8 := by unfold gT1; split <;> simp [zup]
  have g9 : (gT1 I d w (bI (I 15 w * I 9 w < bAr I a w q j))) 17 9 = I 17 9 := by unfold gT1; split <;> simp [zup]
  refine z_aload_n dX0_goTo_88 rfl ?_
  refine zcut 104 ((if gT1 I d w (bI (I 15 w * I 9 w < bAr I a w q j)) 17 11 = 0 then nat5 (gT1 I d w (bI (I 15 w * I 9 w < bAr I a w q j)) 17 7) (gT1 I d w (bI (I 15 w * I 9 w < bAr I a w q j)) 17 8) (gT1 I d w (bI (I 15 w * I 9 w < bAr I a w q j)) 17 9) (gT1 I d w (bI (I 15 w * I 9 w < bAr I a w q j)) 17 6) else 5)) ?_ (fun hc_89 => ?_)
  · refine y_putI dX0_goTo_104 fX0_31 (hB.lt (by decide)) (hB.2.1 17 (by decide)) rfl ?_
    exact y_return dX0_goTo_107 rfl (yR_rfl)
  · refine z_aload_n dX0_goTo_89 rfl ?_
    refine y_getI dX0_goTo_90 fX0_101 (hB.lt (by decide)) (hB.2.1 17 (by decide)) rfl ?_
    refine z_if_eq 100 dX0_goTo_93 (by decide) (by omega) (fun c_93 => ?_) (fun c_93 => ?_)
    · refine z_aload_n dX0_goTo_100 rfl ?_
      refine y_callV dX0_goTo_101 kX0_105 (c_X0_natureOfNth hB (by omega) (by omega) (by omega) (by omega)) (hB.lt (by decide)) (hB.2.1 17 (by decide)) rfl rfl rfl (Nat.le_of_ble_eq_true rfl) ⟨⟨by decide, by decide⟩, by decide, by decide⟩ (fun v101 n101 sh101 I101 P101 hp101 => ?_)
      obtain ⟨rfl, rfl, rfl, rfl, rfl⟩ := hp101
      exact hc_89 _ (by first | (rw [if_neg (by omega)]; done) | (rw [if_pos (by omega)]; done))
    · refine z_iconst dX0_goTo_96 ?_
      refine z_goto 104 dX0_goTo_97 (by decide) ?_
      exact hc_89 _ (by first | (rw [if_neg (by omega)]; done) | (rw [if_pos (by omega)]; done))
set_option maxHeartbeats 4000000 in
set_option maxRecDepth 100000 in
theorem l40_X0_goTo (hB : yB n sh P) {a : Nat} (hMb : yMb n sh P a) (hsi : P 17 2 = some a) {d w q j : Nat} (hd : d ≤ 2106) (hw : w = d / 7) (hq : I 17 3 = (q : Int)) (hq3 : q ≤ 300) (hj : I a 2 = (j : Int)) (hj3 : j ≤ 300) (hO : -2147483648 ≤ bAr I a w q j ∧ bAr I a w q j ≤ 2147483647) (hs6 : 0 ≤ I 15 w ∧ I 15 w ≤ 400) (hs0 : 0 ≤ I 9 w ∧ I 9 w ≤ 400) (h6 : 0 ≤ I 17 6 ∧ I 17 6 ≤ 2107) (h7 : 0 ≤ I 17 7 ∧ I 17 7 ≤ 3000) (h8 : 0 ≤ I 17 8 ∧ I 17 8 ≤ 3000) (h9 : 0 ≤ I 17 9 ∧ I 17 9 ≤ 3000) (h10 : -1 ≤ I 17 10 ∧ I 17 10 ≤ 300) (h11 : I 17 11 = 0 ∨ I 17 11 = 1) : Z l E jX0_goTo (rm 3 70) (yE E 0 0 (yR none n sh (gT2 I d w (bI (I 15 w * I 9 w < bAr I a w q j))) P)) 0 0 (zw E n sh I P) 40 [(0, .ref (zb E + 17)), (1, .int (iI d)), (2, .int (iI w))] [] := by
  have ha17 : a ≠ 17 := by have := hMb.1; omega
  have ha18 : a + 1 ≠ 17 := by have := hMb.1; omega
  have eAr : bAr (zup (zup (zup I 17 4 d) 17 6 (I 17 6 + 1)) 17 10 w) a w q j = bAr I a w q j := by unfold bAr; rw [zup_ne (a := 16) (by decide), zup_ne (a := 16) (by decide), zup_ne (a := 16) (by decide), zup_ne (a := a + 1) ha18, zup_ne (a := a + 1) ha18, zup_ne (a := a + 1) ha18]
  refine z_aload_n dX0_goTo_40 rfl ?_
  refine z_iload_n dX0_goTo_41 rfl ?_
  refine y_putI dX0_goTo_42 fX0_27 (hB.lt (by decide)) (hB.2.1 17 (by decide)) rfl ?_
  refine z_aload_n dX0_goTo_45 rfl ?_
  refine z_dup dX0_goTo_46 rfl ?_
  refine y_getI dX0_goTo_47 fX0_82 (hB.lt (by decide)) (hB.2.1 17 (by decide)) rfl ?_
  refine z_top (I 17 6) (by simp [zup]) ?_
  refine z_iconst dX0_goTo_50 ?_
  refine z_iadd dX0_goTo_51 ?_
  refine y_putI dX0_goTo_52 fX0_82 (hB.lt (by decide)) (hB.2.1 17 (by decide)) rfl ?_
  refine z_iload_n dX0_goTo_55 rfl ?_
  refine z_aload_n dX0_goTo_56 rfl ?_
  refine y_getI dX0_goTo_57 fX0_85 (hB.lt (by decide)) (hB.2.1 17 (by decide)) rfl ?_
  refine z_top (I 17 10) (by simp [zup]) ?_
  refine z_icmp_eq 88 dX0_goTo_60 (by decide) (by omega) (by omega) (fun c_60 => ?_) (fun c_60 => ?_)
  · have h88 := l88_X0_goTo (l := l) (E := E) hB hMb hsi hd hw hq hq3 hj hj3 hO hs6 hs0 h6 h7 h8 h9 h10 h11
    unfold gT1 at h88
    first | (rw [if_pos c_60] at h88; exact h88) | (rw [if_neg c_60] at h88; exact h88)
  · refine z_aload_n dX0_goTo_63 rfl ?_
    refine z_iload_n dX0_goTo_64 rfl ?_
    refine y_putI dX0_goTo_65 fX0_85 (hB.lt (by decide)) (hB.2.1 17 (by decide)) rfl ?_
    refine z_aload_n dX0_goTo_68 rfl ?_
    refine z_aload_n dX0_goTo_69 rfl ?_
    refine y_getR dX0_goTo_70 fX0_75 (hB.lt (by decide)) (hB.2.1 17 (by decide)) rfl hsi ?_
    refine z_iload_n dX0_goTo_73 rfl ?_
    refine z_aload_n dX0_goTo_74 rfl ?_
    refine y_getI dX0_goTo_75 fX0_79 (hB.lt (by decide)) (hB.2.1 17 (by decide)) rfl ?_
    refine z_top ((q : Int)) (by simp [zup, hq]) ?_
    refine z_aload_n dX0_goTo_78 rfl ?_
    refine y_getR dX0_goTo_79 fX0_15 (hB.lt (by decide)) (hB.2.1 17 (by decide)) rfl (hB.2.2.2.2.2.1 0 (by decide)) ?_
    refine y_callV dX0_goTo_82 kX0_97 (c_X2_isOutIn (I := (zup (zup (zup I 17 4 d) 17 6 (I 17 6 + 1)) 17 10 w)) (w := w) (q := q) (j := j) hB hMb (by omega) hq3 (by rw [zup_ne ha17, zup_ne ha17, zup_ne ha17]; exact hj) hj3 (by rw [eAr]; exact hO) (by rw [zup_ne (by decide), zup_ne (by decide), zup_ne (by decide)]; exact hs6) (by rw [zup_ne (by decide), zup_ne (by decide), zup_ne (by decide)]; exact hs0)) (by have := hMb.1; omega) hMb.2.1 rfl rfl rfl (Nat.le_of_ble_eq_true rfl) ⟨⟨by decide, by decide⟩, by decide, by decide⟩ (fun v82 n82 sh82 I82 P82 hp82 => ?_)
    obtain ⟨rfl, rfl, rfl, rfl, rfl⟩ := hp82
    have eo : bI ((zup (zup (zup I 17 4 d) 17 6 (I 17 6 + 1)) 17 10 w) 15 w * (zup (zup (zup I 17 4 d) 17 6 (I 17 6 + 1)) 17 10 w) 9 w < bAr (zup (zup (zup I 17 4 d) 17 6 (I 17 6 + 1)) 17 10 w) a w q j) = (bI (I 15 w * I 9 w < bAr I a w q j)) := by rw [eAr, zup_ne (a := 15) (by decide), zup_ne (a := 15) (by decide), zup_ne (a := 15) (by decide), zup_ne (a := 9) (by decide), zup_ne (a := 9) (by decide), zup_ne (a := 9) (by decide)]
    rw [eo]
    refine y_putZ dX0_goTo_85 fX0_101 (hB.lt (by decide)) (hB.2.1 17 (by decide)) rfl (bI_or _) ?_
    have h88 := l88_X0_goTo (l := l) (E := E) hB hMb hsi hd hw hq hq3 hj hj3 hO hs6 hs0 h6 h7 h8 h9 h10 h11
    unfold gT1 at h88
    first | (rw [if_pos c_60] at h88; exact h88) | (rw [if_neg c_60] at h88; exact h88)
set_option maxHeartbeats 4000000 in
set_option maxRecDepth 100000 in
/-- goTo(d) -/
theorem c_X0_goTo (hB : yB n sh P) {a : Nat} (hMb : yMb n sh P a) (hsi : P 17 2 = some a) {d w q j : Nat} (hd : d ≤ 2106) (hw : w = d / 7) (hq : I 17 3 = (q : Int)) (hq3 : q ≤ 300) (hj : I a 2 = (j : Int)) (hj3 : j ≤ 300) (hO : -2147483648 ≤ bAr I a w q j ∧ bAr I a w q j ≤ 2147483647) (hs6 : 0 ≤ I 15 w ∧ I 15 w ≤ 400) (hs0 : 0 ≤ I 9 w ∧ I 9 w ≤ 400) (h6 : 0 ≤ I 17 6 ∧ I 17 6 ≤ 2107) (h4 : -1 ≤ I 17 4 ∧ I 17 4 ≤ 2106) (hs5 : 0 ≤ I 14 w ∧ I 14 w ≤ 400) (hs1 : 0 ≤ I 10 w ∧ I 10 w ≤ 400) (hs3 : 0 ≤ I 12 w ∧ I 12 w ≤ 400) (hs4 : 0 ≤ I 13 w ∧ I 13 w ≤ 400) (h7 : 0 ≤ I 17 7 ∧ I 17 7 ≤ 3000) (h8 : 0 ≤ I 17 8 ∧ I 17 8 ≤ 3000) (h9 : 0 ≤ I 17 9 ∧ I 17 9 ≤ 3000) (h10 : -1 ≤ I 17 10 ∧ I 17 10 ≤ 300) (h11 : I 17 11 = 0 ∨ I 17 11 = 1) : yC l E jX0_goTo (rm 3 70) [.ref (zb E + 17), .int (iI d)] n sh I P (yR none n sh (gT I d w (bI (I 15 w * I 9 w < bAr I a w q j))) P) := by
  have ha17 : a ≠ 17 := by have := hMb.1; omega
  have ha18 : a + 1 ≠ 17 := by have := hMb.1; omega
  have eAr : bAr (bil I w) a w q j = bAr I a w q j := by unfold bAr; rw [bil_row (by decide), bil_row ha18]
  refine yC_of (by decide) (Nat.le_of_ble_eq_true rfl) ?_
  refine z_iload_n dX0_goTo_0 rfl ?_
  refine z_bipush dX0_goTo_1 rfl ?_
  refine z_idiv dX0_goTo_3 (by omega) (by omega) ?_
  refine z_top (w : Int) (by rw [Int.tdiv_eq_ediv_of_nonneg (by omega)]; omega) ?_
  refine z_istore_n dX0_goTo_4 (by decide) ?_
  refine z_aload_n dX0_goTo_5 rfl ?_
  refine y_getI dX0_goTo_6 fX0_27 (hB.lt (by decide)) (hB.2.1 17 (by decide)) rfl ?_
  refine z_iconst dX0_goTo_9 ?_
  refine z_icmp_eq 35 dX0_goTo_10 (by decide) (by omega) (by omega) (fun c_10 => ?_) (fun c_10 => ?_)
  · refine z_aload_n dX0_goTo_35 rfl ?_
    refine z_iload_n dX0_goTo_36 rfl ?_
    refine y_callV dX0_goTo_37 kX0_94 (c_X0_beginIllness hB (by omega)) (hB.lt (by decide)) (hB.2.1 17 (by decide)) rfl rfl rfl (Nat.le_of_ble_eq_true rfl) ⟨⟨by decide, by decide⟩, by decide, by decide⟩ (fun v37 n37 sh37 I37 P37 hp37 => ?_)
    obtain ⟨rfl, rfl, rfl, rfl, rfl⟩ := hp37
    refine z_keys [0, 1, 2] ?_
    unfold gT
    first
      | (rw [if_neg (by omega)]; exact l40_X0_goTo hB hMb hsi hd hw hq hq3 hj hj3 hO hs6 hs0 h6 h7 h8 h9 h10 h11)
      | (rw [if_pos (by omega)]
         have eo : bI ((bil I w) 15 w * (bil I w) 9 w < bAr (bil I w) a w q j) = (bI (I 15 w * I 9 w < bAr I a w q j)) := by rw [eAr, bil_row (by decide), bil_row (by decide)]
         rw [← eo]
         exact l40_X0_goTo (I := (bil I w)) hB hMb hsi hd hw (by simp [bil, zup]; exact hq) hq3 (by rw [bil_row ha17]; exact hj) hj3 (by rw [eAr]; exact hO) (by rw [bil_row (by decide)]; exact hs6) (by rw [bil_row (by decide)]; exact hs0) (by simp [bil, zup]) (by simp [bil, zup]; omega) (by simp [bil, zup]; omega) (by simp [bil, zup]; omega) (by simp [bil, zup]; omega) (by simp [bil, zup]; exact h11))
  · refine z_iload_n dX0_goTo_13 rfl ?_
    refine z_aload_n dX0_goTo_14 rfl ?_
    refine y_getI dX0_goTo_15 fX0_27 (hB.lt (by decide)) (hB.2.1 17 (by decide)) rfl ?_
    refine z_isub dX0_goTo_18 ?_
    refine z_iconst dX0_goTo_19 ?_
    refine z_isub dX0_goTo_20 ?_
    refine z_aload_n dX0_goTo_21 rfl ?_
    refine y_getR dX0_goTo_22 fX0_15 (hB.lt (by decide)) (hB.2.1 17 (by decide)) rfl (hB.2.2.2.2.2.1 0 (by decide)) ?_
    refine y_getR dX0_goTo_25 fX0_88 (hB.lt (by decide)) (hB.2.1 3 (by decide)) rfl (hB.2.2.2.1 5) ?_
    refine z_iconst dX0_goTo_28 ?_
    refine y_aaload dX0_goTo_29 (hB.lt (by decide)) (hB.2.1 8 (by decide)) (by decide) (by omega) (by decide) (show P 8 5 = some 14 from hB.2.2.2.2.1 5 (by decide)) ?_
    refine z_iload_n dX0_goTo_30 rfl ?_
    refine y_ialoadJ (w) dX0_goTo_31 (hB.lt (by decide)) (hB.2.1 14 (by decide)) (by omega) (by decide) ?_
    refine z_icmp_le 40 dX0_goTo_32 (by decide) (by omega) (by omega) (fun c_32 => ?_) (fun c_32 => ?_)
    · refine z_keys [0, 1, 2] ?_
      unfold gT
      first
        | (rw [if_neg (by omega)]; exact l40_X0_goTo hB hMb hsi hd hw hq hq3 hj hj3 hO hs6 hs0 h6 h7 h8 h9 h10 h11)
        | (rw [if_pos (by omega)]
           have eo : bI ((bil I w) 15 w * (bil I w) 9 w < bAr (bil I w) a w q j) = (bI (I 15 w * I 9 w < bAr I a w q j)) := by rw [eAr, bil_row (by decide), bil_row (by decide)]
           rw [← eo]
           exact l40_X0_goTo (I := (bil I w)) hB hMb hsi hd hw (by simp [bil, zup]; exact hq) hq3 (by rw [bil_row ha17]; exact hj) hj3 (by rw [eAr]; exact hO) (by rw [bil_row (by decide)]; exact hs6) (by rw [bil_row (by decide)]; exact hs0) (by simp [bil, zup]) (by simp [bil, zup]; omega) (by simp [bil, zup]; omega) (by simp [bil, zup]; omega) (by simp [bil, zup]; omega) (by simp [bil, zup]; exact h11))
    · refine z_aload_n dX0_goTo_35 rfl ?_
      refine z_iload_n dX0_goTo_36 rfl ?_
      refine y_callV dX0_goTo_37 kX0_94 (c_X0_beginIllness hB (by omega)) (hB.lt (by decide)) (hB.2.1 17 (by decide)) rfl rfl rfl (Nat.le_of_ble_eq_true rfl) ⟨⟨by decide, by decide⟩, by decide, by decide⟩ (fun v37 n37 sh37 I37 P37 hp37 => ?_)
      obtain ⟨rfl, rfl, rfl, rfl, rfl⟩ := hp37
      refine z_keys [0, 1, 2] ?_
      unfold gT
      first
        | (rw [if_neg (by omega)]; exact l40_X0_goTo hB hMb hsi hd hw hq hq3 hj hj3 hO hs6 hs0 h6 h7 h8 h9 h10 h11)
        | (rw [if_pos (by omega)]
           have eo : bI ((bil I w) 15 w * (bil I w) 9 w < bAr (bil I w) a w q j) = (bI (I 15 w * I 9 w < bAr I a w q j)) := by rw [eAr, bil_row (by decide), bil_row (by decide)]
           rw [← eo]
           exact l40_X0_goTo (I := (bil I w)) hB hMb hsi hd hw (by simp [bil, zup]; exact hq) hq3 (by rw [bil_row ha17]; exact hj) hj3 (by rw [eAr]; exact hO) (by rw [bil_row (by decide)]; exact hs6) (by rw [bil_row (by decide)]; exact hs0) (by simp [bil, zup]) (by simp [bil, zup]; omega) (by simp [bil, zup]; omega) (by simp [bil, zup]; omega) (by simp [bil, zup]; omega) (by simp [bil, zup]; exact h11))
end BC
