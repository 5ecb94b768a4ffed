/-- a MEMBER stands at a, its rows behind it: payments a + 1, booked a + 2, worked a + 3 -/
def yMb (n : Nat) (sh : Nat → Nat × Nat) (P : Nat → Nat → Option Nat) (a : Nat) : Prop := (52 ≤ a ∧ a + 3 < n) ∧ sh a = (0, 2) ∧ sh (a + 1) = (1, 301) ∧ sh (a + 2) = (1, 301) ∧ sh (a + 3) = (1, 301) ∧ P a 3 = some (a + 1) ∧ P a 4 = some (a + 2) ∧ P a 5 = some (a + 3)
/-- ARREARS by the class: DUES ahead, sums of payments -/
def bAr (I : Nat → Nat → Int) (a w q j : Nat) : Int := (if j < w then I 16 w - I 16 j else 0) - I (a + 1) (min w q)
def bDf (I : Nat → Nat → Int) (a w : Nat) : Int := I (a + 3) w - I (a + 2) w
theorem wSum_end {lv sk : Nat → Int} {x : Nat} {wh du : Int} {i : Nat} (hi : 100 ≤ x + i) : ∀ {m : Nat}, i ≤ m → wSum lv sk x wh du i = wSum lv sk x wh du m
  | 0, h => by rw [show i = 0 by omega]
  | m + 1, h => by
    by_cases e : i = m + 1
    · rw [e]
    · have h1 := wSum_end (lv := lv) (sk := sk) (wh := wh) (du := du) hi (m := m) (by omega)
      have e1 : lvA lv (x + m) = 0 := if_neg (by omega)
      rw [h1]
      unfold wSum
      rw [sm_succ, e1, Int.zero_mul]
      omega
section BF
variable {l : Launch} {E : zEnv} {n : Nat} {sh : Nat → Nat × Nat} {I : Nat → Nat → Int} {P : Nat → Nat → Option Nat}
set_option maxHeartbeats 4000000 in
set_option maxRecDepth 100000 in
theorem c_X5_change (hB : yB n sh P) {y a s : Int} (hy : (-2147483648 ≤ y ∧ y ≤ 2147483647)) (ha : (-2147483648 ≤ a ∧ a ≤ 2147483647)) (hs : (-2147483648 ≤ s ∧ s ≤ 2147483647)) : yC l E jX5_change (rm 0 0) [.ref (zb E + 21), .int (iI y), .int (iI a), .int (iI s)] n sh I P (yR (some (.int (iI (bI ((0 ≤ y ∧ y ≤ 99) ∧ (0 ≤ a ∧ a ≤ 1000) ∧ (0 ≤ s ∧ s ≤ 365)))))) n sh (if ((0 ≤ y ∧ y ≤ 99) ∧ (0 ≤ a ∧ a ≤ 1000) ∧ (0 ≤ s ∧ s ≤ 365)) then zup (zup I 22 y.toNat a) 23 y.toNat s else I) P) := by
  refine yC_of (by decide) (Nat.le_of_ble_eq_true rfl) ?_
  refine z_iload_n dX5_change_0 rfl ?_
  refine z_if_lt 32 dX5_change_1 (by decide) (by omega) (fun c_1 => ?_) (fun c_1 => ?_)
  · refine z_iconst dX5_change_32 ?_
    refine y_zreturn dX5_change_33 rfl (by decide) ?_
    first | (rw [bI_t (by omega), if_pos (by omega)]; exact yR_rfl) | (rw [bI_f (by omega), if_neg (by omega)]; exact yR_rfl)
  · refine z_iload_n dX5_change_4 rfl ?_
    refine z_bipush dX5_change_5 rfl ?_
    refine z_icmp_ge 32 dX5_change_7 (by decide) (by omega) (by omega) (fun c_7 => ?_) (fun c_7 => ?_)
    · refine z_iconst dX5_change_32 ?_
      refine y_zreturn dX5_change_33 rfl (by decide) ?_
      first | (rw [bI_t (by omega), if_pos (by omega)]; exact yR_rfl) | (rw [bI_f (by omega), if_neg (by omega)]; exact yR_rfl)
    · refine z_iload_n dX5_change_10 rfl ?_
      refine z_if_lt 32 dX5_change_11 (by decide) (by omega) (fun c_11 => ?_) (fun c_11 => ?_)
      · refine z_iconst dX5_change_32 ?_
        refine y_zreturn dX5_change_33 rfl (by decide) ?_
        first | (rw [bI_t (by omega), if_pos (by omega)]; exact yR_rfl) | (rw [bI_f (by omega), if_neg (by omega)]; exact yR_rfl)
      · refine z_iload_n dX5_change_14 rfl ?_
        refine z_sipush dX5_change_15 rfl ?_
        refine z_icmp_gt 32 dX5_change_18 (by decide) (by omega) (by omega) (fun c_18 => ?_) (fun c_18 => ?_)
        · refine z_iconst dX5_change_32 ?_
          refine y_zreturn dX5_change_33 rfl (by decide) ?_
          first | (rw [bI_t (by omega), if_pos (by omega)]; exact yR_rfl) | (rw [bI_f (by omega), if_neg (by omega)]; exact yR_rfl)
        · refine z_iload_n dX5_change_21 rfl ?_
          refine z_if_lt 32 dX5_change_22 (by decide) (by omega) (fun c_22 => ?_) (fun c_22 => ?_)
          · refine z_iconst dX5_change_32 ?_
            refine y_zreturn dX5_change_33 rfl (by decide) ?_
            first | (rw [bI_t (by omega), if_pos (by omega)]; exact yR_rfl) | (rw [bI_f (by omega), if_neg (by omega)]; exact yR_rfl)
          · refine z_iload_n dX5_change_25 rfl ?_
            refine z_sipush dX5_change_26 rfl ?_
            refine z_icmp_le 34 dX5_change_29 (by decide) (by omega) (by omega) (fun c_29 => ?_) (fun c_29 => ?_)
            · obtain ⟨y0, rfl⟩ : ∃ y0 : Nat, y = y0 := ⟨y.toNat, by omega⟩
              rw [Int.toNat_natCast]
              refine z_aload_n dX5_change_34 rfl ?_
              refine y_getR dX5_change_35 fX5_9 (hB.lt (by decide)) (hB.2.1 21 (by decide)) rfl (hB.2.2.2.2.2.2 0) ?_
              refine z_iload_n dX5_change_38 rfl ?_
              refine z_iload_n dX5_change_39 rfl ?_
              refine y_iastoreJ (y0) dX5_change_40 (hB.lt (by decide)) (hB.2.1 22 (by decide)) (by omega) (by decide) ?_
              refine z_aload_n dX5_change_41 rfl ?_
              refine y_getR dX5_change_42 fX5_13 (hB.lt (by decide)) (hB.2.1 21 (by decide)) rfl (hB.2.2.2.2.2.2 1) ?_
              refine z_iload_n dX5_change_45 rfl ?_
              refine z_iload_n dX5_change_46 rfl ?_
              refine y_iastoreJ (y0) dX5_change_47 (hB.lt (by decide)) (hB.2.1 23 (by decide)) (by omega) (by decide) ?_
              refine z_iconst dX5_change_48 ?_
              refine y_zreturn dX5_change_49 rfl (by decide) ?_
              first | (rw [bI_t (by omega), if_pos (by omega)]; exact yR_rfl) | (rw [bI_f (by omega), if_neg (by omega)]; exact yR_rfl)
            · refine z_iconst dX5_change_32 ?_
              refine y_zreturn dX5_change_33 rfl (by decide) ?_
              first | (rw [bI_t (by omega), if_pos (by omega)]; exact yR_rfl) | (rw [bI_f (by omega), if_neg (by omega)]; exact yR_rfl)
set_option maxHeartbeats 4000000 in
set_option maxRecDepth 100000 in
theorem c_X5_livingAt (hB : yB n sh P) {x : Nat} (hx : x < 1000) : yC l E jX5_livingAt (rm 0 0) [.ref (zb E + 21), .int (iI x)] n sh I P (yR (some (.int (iI (lvA (I 22) x)))) n sh (I) P) := by
  refine yC_of (by decide) (Nat.le_of_ble_eq_true rfl) ?_
  refine z_iload_n dX5_livingAt_0 rfl ?_
  refine z_if_lt 19 dX5_livingAt_1 (by decide) (by omega) (fun c_1 => ?_) (fun c_1 => ?_)
  · refine z_iconst dX5_livingAt_19 ?_
    refine y_ireturn dX5_livingAt_20 rfl ?_
    unfold lvA
    first | (rw [if_pos (by omega)]; exact yR_rfl) | (rw [if_neg (by omega)]; exact yR_rfl)
  · refine z_iload_n dX5_livingAt_4 rfl ?_
    refine z_bipush dX5_livingAt_5 rfl ?_
    refine z_icmp_ge 19 dX5_livingAt_7 (by decide) (by omega) (by omega) (fun c_7 => ?_) (fun c_7 => ?_)
    · refine z_iconst dX5_livingAt_19 ?_
      refine y_ireturn dX5_livingAt_20 rfl ?_
      unfold lvA
      first | (rw [if_pos (by omega)]; exact yR_rfl) | (rw [if_neg (by omega)]; exact yR_rfl)
    · refine z_aload_n dX5_livingAt_10 rfl ?_
      refine y_getR dX5_livingAt_11 fX5_9 (hB.lt (by decide)) (hB.2.1 21 (by decide)) rfl (hB.2.2.2.2.2.2 0) ?_
      refine z_iload_n dX5_livingAt_14 rfl ?_
      refine y_ialoadJ (x) dX5_livingAt_15 (hB.lt (by decide)) (hB.2.1 22 (by decide)) (by omega) (by decide) ?_
      refine z_goto 20 dX5_livingAt_16 (by decide) ?_
      refine y_ireturn dX5_livingAt_20 rfl ?_
      unfold lvA
      first | (rw [if_pos (by omega)]; exact yR_rfl) | (rw [if_neg (by omega)]; exact yR_rfl)
set_option maxHeartbeats 4000000 in
set_option maxRecDepth 100000 in
theorem l_X5_sumOver (hB : yB n sh P) {x yr : Nat} {wh du : Int} (hx : x ≤ 100) (hyr : yr ≤ 50) (hw : 0 ≤ wh ∧ wh ≤ 400) (hd : 0 ≤ du ∧ du ≤ 400) (hlv : ∀ i, i < 100 → 0 ≤ I 22 i ∧ I 22 i ≤ 1000) (hsk : ∀ i, i < 100 → 0 ≤ I 23 i ∧ I 23 i ≤ 365) : ∀ i : Nat, (i ≤ yr ∧ (i = 0 ∨ x + i ≤ 100)) → Z l E jX5_sumOver (rm 1 23) (yE E 0 0 (yR (some (.long (iL (wSum (I 22) (I 23) x wh du yr)))) n sh I P)) 0 0 (zw E n sh I P) 20 [(0, .ref (zb E + 21)), (1, .int (iI x)), (2, .int (iI yr)), (3, .int (iI wh)), (4, .int (iI (52 * du))), (5, .long (iL (wSum (I 22) (I 23) x wh du i))), (7, .int (iI (min ((x : Int) + yr) 100))), (8, .int (iI ((x : Int) + i)))] [] := by
  refine zloop (fun i : Nat => yr - i) (fun i ih hi0 => ?_)
  refine z_iload dX5_sumOver_20 rfl ?_
  refine z_iload dX5_sumOver_22 rfl ?_
  refine z_icmp_ge 60 dX5_sumOver_24 (by decide) (by omega) (by omega) (fun c_24 => ?_) (fun c_24 => ?_)
  · have es : (wSum (I 22) (I 23) x wh du i) = (wSum (I 22) (I 23) x wh du yr) := by
      rcases Nat.lt_or_ge i yr with hl | hl
      · exact wSum_end (by omega) (by omega)
      · rw [show i = yr by omega]
    rw [es]
    refine z_lload dX5_sumOver_60 rfl ?_
    exact y_lreturn dX5_sumOver_62 rfl (yR_rfl)
  · have g1 := hlv (x + i) (by omega)
    have g2 := hsk (x + i) (by omega)
    have g3 : 0 ≤ I 23 (x + i) * wh := Int.mul_nonneg g2.1 hw.1
    have g4 : I 23 (x + i) * wh ≤ 365 * 400 := Int.mul_le_mul g2.2 hw.2 hw.1 (by decide)
    refine z_lload dX5_sumOver_27 rfl ?_
    refine z_aload_n dX5_sumOver_29 rfl ?_
    refine y_getR dX5_sumOver_30 fX5_9 (hB.lt (by decide)) (hB.2.1 21 (by decide)) rfl (hB.2.2.2.2.2.2 0) ?_
    refine z_iload dX5_sumOver_33 rfl ?_
    refine y_ialoadJ (x + i) dX5_sumOver_35 (hB.lt (by decide)) (hB.2.1 22 (by decide)) (by omega) (by decide) ?_
    refine z_i2l dX5_sumOver_36 (by omega) ?_
    refine z_aload_n dX5_sumOver_37 rfl ?_
    refine y_getR dX5_sumOver_38 fX5_13 (hB.lt (by decide)) (hB.2.1 21 (by decide)) rfl (hB.2.2.2.2.2.2 1) ?_
    refine z_iload dX5_sumOver_41 rfl ?_
    refine y_ialoadJ (x + i) dX5_sumOver_43 (hB.lt (by decide)) (hB.2.1 23 (by decide)) (by omega) (by decide) ?_
    refine z_iload_n dX5_sumOver_44 rfl ?_
    refine z_imul dX5_sumOver_45 ?_
    refine z_iload dX5_sumOver_46 rfl ?_
    refine z_isub dX5_sumOver_48 ?_
    refine z_i2l dX5_sumOver_49 (by omega) ?_
    refine z_lmul dX5_sumOver_50 ?_
    refine z_ladd dX5_sumOver_51 ?_
    refine z_lstore dX5_sumOver_52 (by decide) ?_
    refine z_iinc dX5_sumOver_54 rfl (by decide) ?_
    refine z_goto 20 dX5_sumOver_57 (by decide) ?_
    refine z_keys [0, 1, 2, 3, 4, 5, 7, 8] ?_
    have h5 := ih (i + 1) (by omega) (by omega)
    unfold wSum at h5 ⊢
    rw [sm_succ] at h5
    have e1 : lvA (I 22) (x + i) = I 22 (x + i) := if_pos (by omega)
    have e2 : lvA (I 23) (x + i) = I 23 (x + i) := if_pos (by omega)
    rw [e1, e2, show (x : Int) + ((i + 1 : Nat) : Int) = (x : Int) + i + 1 by omega] at h5
    exact h5
set_option maxHeartbeats 4000000 in
set_option maxRecDepth 100000 in
theorem c_X5_sumOver (hB : yB n sh P) {x yr : Nat} {wh du : Int} (hx : x ≤ 100) (hyr : yr ≤ 50) (hw : 0 ≤ wh ∧ wh ≤ 400) (hd : 0 ≤ du ∧ du ≤ 400) (hlv : ∀ i, i < 100 → 0 ≤ I 22 i ∧ I 22 i ≤ 1000) (hsk : ∀ i, i < 100 → 0 ≤ I 23 i ∧ I 23 i ≤ 365) : yC l E jX5_sumOver (rm 1 23) [.ref (zb E + 21), .int (iI x), .int (iI yr), .int (iI wh), .int (iI (52 * du))] n sh I P (yR (some (.long (iL (wSum (I 22) (I 23) x wh du yr)))) n sh (I) P) := by
  refine yC_of (by decide) (Nat.le_of_ble_eq_true rfl) ?_
  refine z_lconst 0 dX5_sumOver_0 rfl ?_
  refine z_lstore dX5_sumOver_1 (by decide) ?_
  refine z_iload_n dX5_sumOver_3 rfl ?_
  refine z_iload_n dX5_sumOver_4 rfl ?_
  refine z_iadd dX5_sumOver_5 ?_
  refine z_bipush dX5_sumOver_6 rfl ?_
  refine z_min dX5_sumOver_8 mX5_16 (by omega) (by omega) (by decide) (Nat.le_of_ble_eq_true rfl) (by decide) (by decide) ?_
  refine z_istore dX5_sumOver_11 (by decide) ?_
  refine z_iload_n dX5_sumOver_13 rfl ?_
  refine z_iconst dX5_sumOver_14 ?_
  refine z_max dX5_sumOver_15 mX5_22 (by omega) (by omega) (by decide) (Nat.le_of_ble_eq_true rfl) (by decide) (by decide) ?_
  refine z_top ((x : Int) + ((0 : Nat) : Int)) (by omega) ?_
  refine z_istore dX5_sumOver_18 (by decide) ?_
  refine z_keys [0, 1, 2, 3, 4, 5, 7, 8] ?_
  exact l_X5_sumOver hB hx hyr hw hd hlv hsk 0 (by omega)
set_option maxHeartbeats 4000000 in
set_option maxRecDepth 100000 in
theorem c_X3_isKnownIn {p : Nat} (hp1 : p < n) (hp2 : sh p = (0, 3)) (ht : 0 ≤ I p 3 ∧ I p 3 ≤ 300) (hb : -1 ≤ I p 4 ∧ I p 4 ≤ 300) {q : Int} (hq : (-2147483648 ≤ q ∧ q ≤ 2147483647)) : yC l E jX3_isKnownIn (rm 0 0) [.ref (zb E + p), .int (iI q)] n sh I P (yR (some (.int (iI (bI (I p 3 ≤ q ∧ (I p 4 = -1 ∨ q < I p 4)))))) n sh I P) := by
  refine yC_of (by decide) (Nat.le_of_ble_eq_true rfl) ?_
  refine z_aload_n dX3_isKnownIn_0 rfl ?_
  refine y_getI dX3_isKnownIn_1 fX3_24 hp1 hp2 rfl ?_
  refine z_iload_n dX3_isKnownIn_4 rfl ?_
  refine z_icmp_gt 28 dX3_isKnownIn_5 (by decide) (by omega) (by omega) (fun c_5 => ?_) (fun c_5 => ?_)
  · refine z_iconst dX3_isKnownIn_28 ?_
    refine y_zreturn dX3_isKnownIn_29 rfl (by decide) ?_
    first | (rw [bI_t (by omega)]; exact yR_rfl) | (rw [bI_f (by omega)]; exact yR_rfl)
  · refine z_aload_n dX3_isKnownIn_8 rfl ?_
    refine y_getI dX3_isKnownIn_9 fX3_9 hp1 hp2 rfl ?_
    refine z_iconst dX3_isKnownIn_12 ?_
    refine z_icmp_eq 24 dX3_isKnownIn_13 (by decide) (by omega) (by omega) (fun c_13 => ?_) (fun c_13 => ?_)
    · refine z_iconst dX3_isKnownIn_24 ?_
      refine z_goto 29 dX3_isKnownIn_25 (by decide) ?_
      refine y_zreturn dX3_isKnownIn_29 rfl (by decide) ?_
      first | (rw [bI_t (by omega)]; exact yR_rfl) | (rw [bI_f (by omega)]; exact yR_rfl)
    · refine z_aload_n dX3_isKnownIn_16 rfl ?_
      refine y_getI dX3_isKnownIn_17 fX3_9 hp1 hp2 rfl ?_
      refine z_iload_n dX3_isKnownIn_20 rfl ?_
      refine z_icmp_le 28 dX3_isKnownIn_21 (by decide) (by omega) (by omega) (fun c_21 => ?_) (fun c_21 => ?_)
      · refine z_iconst dX3_isKnownIn_28 ?_
        refine y_zreturn dX3_isKnownIn_29 rfl (by decide) ?_
        first | (rw [bI_t (by omega)]; exact yR_rfl) | (rw [bI_f (by omega)]; exact yR_rfl)
      · refine z_iconst dX3_isKnownIn_24 ?_
        refine z_goto 29 dX3_isKnownIn_25 (by decide) ?_
        refine y_zreturn dX3_isKnownIn_29 rfl (by decide) ?_
        first | (rw [bI_t (by omega)]; exact yR_rfl) | (rw [bI_f (by omega)]; exact yR_rfl)
set_option maxHeartbeats 4000000 in
set_option maxRecDepth 100000 in
theorem c_X2_differenceIn {a : Nat} (hMb : yMb n sh P a) {w : Nat} (hw : w ≤ 300) : yC l E jX2_differenceIn (rm 0 0) [.ref (zb E + a), .int (iI w)] n sh I P (yR (some (.int (iI (bDf I a w)))) n sh (I) P) := by
  refine yC_of (by decide) (Nat.le_of_ble_eq_true rfl) ?_
  refine z_aload_n dX2_differenceIn_0 rfl ?_
  refine y_getR dX2_differenceIn_1 fX2_18 (by have := hMb.1; omega) hMb.2.1 rfl hMb.2.2.2.2.2.2.2 ?_
  refine z_iload_n dX2_differenceIn_4 rfl ?_
  refine y_ialoadJ (w) dX2_differenceIn_5 (by have := hMb.1; omega) hMb.2.2.2.2.1 (by omega) (by decide) ?_
  refine z_aload_n dX2_differenceIn_6 rfl ?_
  refine y_getR dX2_differenceIn_7 fX2_15 (by have := hMb.1; omega) hMb.2.1 rfl hMb.2.2.2.2.2.2.1 ?_
  refine z_iload_n dX2_differenceIn_10 rfl ?_
  refine y_ialoadJ (w) dX2_differenceIn_11 (by have := hMb.1; omega) hMb.2.2.2.1 (by omega) (by decide) ?_
  refine z_isub dX2_differenceIn_12 ?_
  exact y_ireturn dX2_differenceIn_13 rfl (yR_rfl)
set_option maxHeartbeats 4000000 in
set_option maxRecDepth 100000 in
theorem c_X2_bookDifferenceIn {a : Nat} (hMb : yMb n sh P a) {w : Nat} (hw : w ≤ 300) : yC l E jX2_bookDifferenceIn (rm 1 21) [.ref (zb E + a), .int (iI w)] n sh I P (yR (none) n sh (zup (zup I a 6 (I a 6 + bDf I a w)) (a + 2) w (I (a + 3) w)) P) := by
  refine yC_of (by decide) (Nat.le_of_ble_eq_true rfl) ?_
  refine z_aload_n dX2_bookDifferenceIn_0 rfl ?_
  refine z_dup dX2_bookDifferenceIn_1 rfl ?_
  refine y_getI dX2_bookDifferenceIn_2 fX2_66 (by have := hMb.1; omega) hMb.2.1 rfl ?_
  refine z_aload_n dX2_bookDifferenceIn_5 rfl ?_
  refine z_iload_n dX2_bookDifferenceIn_6 rfl ?_
  refine y_callV dX2_bookDifferenceIn_7 kX2_62 (c_X2_differenceIn hMb hw) (by have := hMb.1; omega) hMb.2.1 rfl rfl rfl (Nat.le_of_ble_eq_true rfl) ⟨⟨by decide, by decide⟩, by decide, by decide⟩ (fun v7 n7 sh7 I7 P7 hp7 => ?_)
  obtain ⟨rfl, rfl, rfl, rfl, rfl⟩ := hp7
  refine z_iadd dX2_bookDifferenceIn_10 ?_
  refine y_putI dX2_bookDifferenceIn_11 fX2_66 (by have := hMb.1; omega) hMb.2.1 rfl ?_
  refine z_aload_n dX2_bookDifferenceIn_14 rfl ?_
  refine y_getR dX2_bookDifferenceIn_15 fX2_15 (by have := hMb.1; omega) hMb.2.1 rfl hMb.2.2.2.2.2.2.1 ?_
  refine z_iload_n dX2_bookDifferenceIn_18 rfl ?_
  refine z_aload_n dX2_bookDifferenceIn_19 rfl ?_
  refine y_getR dX2_bookDifferenceIn_20 fX2_18 (by have := hMb.1; omega) hMb.2.1 rfl hMb.2.2.2.2.2.2.2 ?_
  refine z_iload_n dX2_bookDifferenceIn_23 rfl ?_
  refine y_ialoadJ (w) dX2_bookDifferenceIn_24 (by have := hMb.1; omega) hMb.2.2.2.2.1 (by omega) (by decide) ?_
  refine z_top (I (a + 3) w) (by rw [zup_ne (by omega)]) ?_
  refine y_iastoreJ (w) dX2_bookDifferenceIn_25 (by have := hMb.1; omega) hMb.2.2.2.1 (by omega) (by decide) ?_
  exact y_return dX2_bookDifferenceIn_26 rfl (yR_rfl)
set_option maxHeartbeats 4000000 in
set_option maxRecDepth 100000 in
theorem c_X2_endWeek {a : Nat} (hMb : yMb n sh P a) {w : Nat} (hw : w < 300) : yC l E jX2_endWeek (rm 0 0) [.ref (zb E + a), .int (iI w)] n sh I P (yR (none) n sh (zup (zup I a 7 0) (a + 1) (w + 1) (I (a + 1) w)) P) := by
  refine yC_of (by decide) (Nat.le_of_ble_eq_true rfl) ?_
  refine z_aload_n dX2_endWeek_0 rfl ?_
  refine z_iconst dX2_endWeek_1 ?_
  refine y_putZ dX2_endWeek_2 fX2_69 (by have := hMb.1; omega) hMb.2.1 rfl (by decide) ?_
  refine z_iload_n dX2_endWeek_5 rfl ?_
  refine z_if_lt 30 dX2_endWeek_6 (by decide) (by omega) (fun c_6 => absurd c_6 (by omega)) (fun c_6 => ?_)
  refine z_iload_n dX2_endWeek_9 rfl ?_
  refine z_sipush dX2_endWeek_10 rfl ?_
  refine z_icmp_ge 30 dX2_endWeek_13 (by decide) (by omega) (by omega) (fun c_13 => absurd c_13 (by omega)) (fun c_13 => ?_)
  refine z_aload_n dX2_endWeek_16 rfl ?_
  refine y_getR dX2_endWeek_17 fX2_9 (by have := hMb.1; omega) hMb.2.1 rfl hMb.2.2.2.2.2.1 ?_
  refine z_iload_n dX2_endWeek_20 rfl ?_
  refine z_iconst dX2_endWeek_21 ?_
  refine z_iadd dX2_endWeek_22 ?_
  refine z_aload_n dX2_endWeek_23 rfl ?_
  refine y_getR dX2_endWeek_24 fX2_9 (by have := hMb.1; omega) hMb.2.1 rfl hMb.2.2.2.2.2.1 ?_
  refine z_iload_n dX2_endWeek_27 rfl ?_
  refine y_ialoadJ (w) dX2_endWeek_28 (by have := hMb.1; omega) hMb.2.2.1 (by omega) (by decide) ?_
  refine z_top (I (a + 1) w) (by rw [zup_ne (by omega)]) ?_
  refine y_iastoreJ (w + 1) dX2_endWeek_29 (by have := hMb.1; omega) hMb.2.2.1 (by omega) (by decide) ?_
  exact y_return dX2_endWeek_30 rfl (yR_rfl)
set_option maxHeartbeats 4000000 in
set_option maxRecDepth 100000 in
theorem c_X2_arrearsIn (hB : yB n sh P) {a : Nat} (hMb : yMb n sh P a) {w q j : Nat} (hw : w ≤ 300) (hq : q ≤ 300) (hj : I a 2 = (j : Int)) (hj3 : j ≤ 300) : yC l E jX2_arrearsIn (rm 1 23) [.ref (zb E + a), .int (iI w), .int (iI q), .ref (zb E + 3)] n sh I P (yR (some (.int (iI (bAr I a w q j)))) n sh (I) P) := by
  refine yC_of (by decide) (Nat.le_of_ble_eq_true rfl) ?_
  refine zcut 28 (if j < w then I 16 w - I 16 j else 0) ?_ (fun hc_0 => ?_)
  · refine z_istore dX2_arrearsIn_28 (by decide) ?_
    refine z_iload dX2_arrearsIn_30 rfl ?_
    refine z_aload_n dX2_arrearsIn_32 rfl ?_
    refine y_getR dX2_arrearsIn_33 fX2_9 (by have := hMb.1; omega) hMb.2.1 rfl hMb.2.2.2.2.2.1 ?_
    refine z_iload_n dX2_arrearsIn_36 rfl ?_
    refine z_iload_n dX2_arrearsIn_37 rfl ?_
    refine z_min dX2_arrearsIn_38 mX2_48 (by omega) (by omega) (by decide) (Nat.le_of_ble_eq_true rfl) (by decide) (by decide) ?_
    refine y_ialoadJ (min w q) dX2_arrearsIn_41 (by have := hMb.1; omega) hMb.2.2.1 (by omega) (by decide) ?_
    refine z_isub dX2_arrearsIn_42 ?_
    exact y_ireturn dX2_arrearsIn_43 rfl (yR_rfl)
  · refine z_iload_n dX2_arrearsIn_0 rfl ?_
    refine z_aload_n dX2_arrearsIn_1 rfl ?_
    refine y_getI dX2_arrearsIn_2 fX2_28 (by have := hMb.1; omega) hMb.2.1 rfl ?_
    refine z_top ((j : Int)) (hj) ?_
    refine z_icmp_le 27 dX2_arrearsIn_5 (by decide) (by omega) (by omega) (fun c_5 => ?_) (fun c_5 => ?_)
    · refine z_iconst dX2_arrearsIn_27 ?_
      exact hc_0 _ (by first | (rw [if_pos (by omega)]; done) | (rw [if_neg (by omega)]; done))
    · refine z_aload_n dX2_arrearsIn_8 rfl ?_
      refine y_getR dX2_arrearsIn_9 fX2_43 (hB.lt (by decide)) (hB.2.1 3 (by decide)) rfl (hB.2.2.2.1 6) ?_
      refine z_iload_n dX2_arrearsIn_12 rfl ?_
      refine y_ialoadJ (w) dX2_arrearsIn_13 (hB.lt (by decide)) (hB.2.1 16 (by decide)) (by omega) (by decide) ?_
      refine z_aload_n dX2_arrearsIn_14 rfl ?_
      refine y_getR dX2_arrearsIn_15 fX2_43 (hB.lt (by decide)) (hB.2.1 3 (by decide)) rfl (hB.2.2.2.1 6) ?_
      refine z_aload_n dX2_arrearsIn_18 rfl ?_
      refine y_getI dX2_arrearsIn_19 fX2_28 (by have := hMb.1; omega) hMb.2.1 rfl ?_
      refine z_top ((j : Int)) (hj) ?_
      refine y_ialoadJ (j) dX2_arrearsIn_22 (hB.lt (by decide)) (hB.2.1 16 (by decide)) (by omega) (by decide) ?_
      refine z_isub dX2_arrearsIn_23 ?_
      refine z_goto 28 dX2_arrearsIn_24 (by decide) ?_
      exact hc_0 _ (by first | (rw [if_pos (by omega)]; done) | (rw [if_neg (by omega)]; done))
set_option maxHeartbeats 4000000 in
set_option maxRecDepth 100000 in
theorem c_X2_isOutIn (hB : yB n sh P) {a : Nat} (hMb : yMb n sh P a) {w q j : Nat} (hw : w ≤ 300) (hq : q ≤ 300) (hj : I a 2 = (j : Int)) (hj3 : j ≤ 300) (hO : -2147483648 ≤ bAr I a w q j ∧ bAr I a w q j ≤ 2147483647) (h6 : 0 ≤ I 15 w ∧ I 15 w ≤ 400) (h0 : 0 ≤ I 9 w ∧ I 9 w ≤ 400) : yC l E jX2_isOutIn (rm 2 47) [.ref (zb E + a), .int (iI w), .int (iI q), .ref (zb E + 3)] n sh I P (yR (some (.int (iI (bI (I 15 w * I 9 w < bAr I a w q j))))) n sh (I) P) := by
  refine yC_of (by decide) (Nat.le_of_ble_eq_true rfl) ?_
  refine z_aload_n dX2_isOutIn_0 rfl ?_
  refine z_iload_n dX2_isOutIn_1 rfl ?_
  refine z_iload_n dX2_isOutIn_2 rfl ?_
  refine z_aload_n dX2_isOutIn_3 rfl ?_
  refine y_callV dX2_isOutIn_4 kX2_54 (c_X2_arrearsIn hB hMb hw hq hj hj3) (by have := hMb.1; omega) hMb.2.1 rfl rfl rfl (Nat.le_of_ble_eq_true rfl) ⟨⟨by decide, by decide⟩, by decide, by decide⟩ (fun v4 n4 sh4 I4 P4 hp4 => ?_)
  obtain ⟨rfl, rfl, rfl, rfl, rfl⟩ := hp4
  have hmul := mul400 h6 h0
  refine z_aload_n dX2_isOutIn_7 rfl ?_
  refine y_getR dX2_isOutIn_8 fX2_58 (hB.lt (by decide)) (hB.2.1 3 (by decide)) rfl (hB.2.2.2.1 5) ?_
  refine z_bipush dX2_isOutIn_11 rfl ?_
  refine y_aaload dX2_isOutIn_13 (hB.lt (by decide)) (hB.2.1 8 (by decide)) (by decide) (by omega) (by decide) (show P 8 6 = some 15 from hB.2.2.2.2.1 6 (by decide)) ?_
  refine z_iload_n dX2_isOutIn_14 rfl ?_
  refine y_ialoadJ (w) dX2_isOutIn_15 (hB.lt (by decide)) (hB.2.1 15 (by decide)) (by omega) (by decide) ?_
  refine z_aload_n dX2_isOutIn_16 rfl ?_
  refine y_getR dX2_isOutIn_17 fX2_58 (hB.lt (by decide)) (hB.2.1 3 (by decide)) rfl (hB.2.2.2.1 5) ?_
  refine z_iconst dX2_isOutIn_20 ?_
  refine y_aaload dX2_isOutIn_21 (hB.lt (by decide)) (hB.2.1 8 (by decide)) (by decide) (by omega) (by decide) (show P 8 0 = some 9 from hB.2.2.2.2.1 0 (by decide)) ?_
  refine z_iload_n dX2_isOutIn_22 rfl ?_
  refine y_ialoadJ (w) dX2_isOutIn_23 (hB.lt (by decide)) (hB.2.1 9 (by decide)) (by omega) (by decide) ?_
  refine z_imul dX2_isOutIn_24 ?_
  refine z_icmp_le 32 dX2_isOutIn_25 (by decide) (by omega) (by omega) (fun c_25 => ?_) (fun c_25 => ?_)
  · refine z_iconst dX2_isOutIn_32 ?_
    refine y_zreturn dX2_isOutIn_33 rfl (by decide) ?_
    first | (rw [bI_t (by omega)]; exact yR_rfl) | (rw [bI_f (by omega)]; exact yR_rfl)
  · refine z_iconst dX2_isOutIn_28 ?_
    refine z_goto 33 dX2_isOutIn_29 (by decide) ?_
    refine y_zreturn dX2_isOutIn_33 rfl (by decide) ?_
    first | (rw [bI_t (by omega)]; exact yR_rfl) | (rw [bI_f (by omega)]; exact yR_rfl)
set_option maxHeartbeats 4000000 in
set_option maxRecDepth 100000 in
theorem l_X2_differencesUpTo {a : Nat} (hMb : yMb n sh P a) {T : Nat} (hT : T ≤ 300) (hr : ∀ w, w ≤ T → -2147483648 ≤ bDf I a w ∧ bDf I a w ≤ 2147483647) : ∀ w : Nat, w ≤ T + 1 → Z l E jX2_differencesUpTo (rm 1 21) (yE E 0 0 (yR (some (.int (iI (sm (fun w => bI (¬ bDf I a w = 0)) (T + 1))))) n sh I P)) 0 0 (zw E n sh I P) 4 [(0, .ref (zb E + a)), (1, .int (iI T)), (2, .int (iI (sm (fun w => bI (¬ bDf I a w = 0)) w))), (3, .int (iI w))] [] := by
  refine zloop (fun w : Nat => T + 1 - w) (fun w ih hw0 => ?_)
  refine z_iload_n dX2_differencesUpTo_4 rfl ?_
  refine z_iload_n dX2_differencesUpTo_5 rfl ?_
  refine z_icmp_gt 26 dX2_differencesUpTo_6 (by decide) (by omega) (by omega) (fun c_6 => ?_) (fun c_6 => ?_)
  · have ew : w = T + 1 := by omega
    subst ew
    refine z_iload_n dX2_differencesUpTo_26 rfl ?_
    exact y_ireturn dX2_differencesUpTo_27 rfl (yR_rfl)
  · refine z_aload_n dX2_differencesUpTo_9 rfl ?_
    refine z_iload_n dX2_differencesUpTo_10 rfl ?_
    refine y_callV dX2_differencesUpTo_11 kX2_62 (c_X2_differenceIn hMb (by omega)) (by have := hMb.1; omega) hMb.2.1 rfl rfl rfl (Nat.le_of_ble_eq_true rfl) ⟨⟨by decide, by decide⟩, by decide, by decide⟩ (fun v11 n11 sh11 I11 P11 hp11 => ?_)
    obtain ⟨rfl, rfl, rfl, rfl, rfl⟩ := hp11
    have hrw := hr w (by omega)
    refine z_if_eq 20 dX2_differencesUpTo_14 (by decide) hrw (fun c_14 => ?_) (fun c_14 => ?_)
    · refine z_iinc dX2_differencesUpTo_20 rfl (by decide) ?_
      refine z_goto 4 dX2_differencesUpTo_23 (by decide) ?_
      refine z_keys [0, 1, 2, 3] ?_
      have h5 := ih (w + 1) (by omega) (by omega)
      rw [sm_succ (fun w => bI (¬ bDf I a w = 0)) w] at h5
      first | (rw [bI_t c_14] at h5; exact h5) | (rw [bI_f (fun h => h c_14), Int.add_zero] at h5; exact h5)
    · refine z_iinc dX2_differencesUpTo_17 rfl (by decide) ?_
      refine z_iinc dX2_differencesUpTo_20 rfl (by decide) ?_
      refine z_goto 4 dX2_differencesUpTo_23 (by decide) ?_
      refine z_keys [0, 1, 2, 3] ?_
      have h5 := ih (w + 1) (by omega) (by omega)
      rw [sm_succ (fun w => bI (¬ bDf I a w = 0)) w] at h5
      first | (rw [bI_t c_14] at h5; exact h5) | (rw [bI_f (fun h => h c_14), Int.add_zero] at h5; exact h5)
set_option maxHeartbeats 4000000 in
set_option maxRecDepth 100000 in
theorem c_X2_differencesUpTo {a : Nat} (hMb : yMb n sh P a) {T : Nat} (hT : T ≤ 300) (hr : ∀ w, w ≤ T → -2147483648 ≤ bDf I a w ∧ bDf I a w ≤ 2147483647) : yC l E jX2_differencesUpTo (rm 1 21) [.ref (zb E + a), .int (iI T)] n sh I P (yR (some (.int (iI (sm (fun w => bI (¬ bDf I a w = 0)) (T + 1))))) n sh (I) P) := by
  refine yC_of (by decide) (Nat.le_of_ble_eq_true rfl) ?_
  refine z_iconst dX2_differencesUpTo_0 ?_
  refine z_istore_n dX2_differencesUpTo_1 (by decide) ?_
  refine z_iconst dX2_differencesUpTo_2 ?_
  refine z_istore_n dX2_differencesUpTo_3 (by decide) ?_
  refine z_keys [0, 1, 2, 3] ?_
  exact l_X2_differencesUpTo hMb hT hr 0 (by omega)
set_option maxHeartbeats 4000000 in
set_option maxRecDepth 100000 in
theorem c_X1_tell (hB : yB n sh P) {r rl b : Nat} (hr0 : P 19 0 = some r) (hr1 : r < n) (hr2 : sh r = (1, rl)) (hrl : rl ≤ 80000) (hb : I 19 1 = (b : Int)) (hbl : 4 * b ≤ rl) {i a : Int} (hi : (-2147483648 ≤ i ∧ i ≤ 2147483647)) (ha : (-2147483648 ≤ a ∧ a ≤ 2147483647)) : yC l E jX1_tell (rm 0 0) [.ref (zb E + 19), .int (iI i), .int (iI a)] n sh I P (yR (some (.int (iI (if ((0 ≤ i ∧ i < (b : Int)) ∧ (0 ≤ a ∧ a < 4)) then I r (4 * i.toNat + a.toNat) else -1000000)))) n sh (I) P) := by
  refine yC_of (by decide) (Nat.le_of_ble_eq_true rfl) ?_
  refine z_iload_n dX1_tell_0 rfl ?_
  refine z_if_lt 21 dX1_tell_1 (by decide) (by omega) (fun c_1 => ?_) (fun c_1 => ?_)
  · refine z_ldc _ dX1_tell_21 qX1_35 ?_
    refine y_ireturn dX1_tell_23 rfl ?_
    first | (rw [if_pos (by omega)]; exact yR_rfl) | (rw [if_neg (by omega)]; exact yR_rfl)
  · refine z_iload_n dX1_tell_4 rfl ?_
    refine z_aload_n dX1_tell_5 rfl ?_
    refine y_getI dX1_tell_6 fX1_15 (hB.lt (by decide)) (hB.2.1 19 (by decide)) rfl ?_
    refine z_top ((b : Int)) (hb) ?_
    refine z_icmp_ge 21 dX1_tell_9 (by decide) (by omega) (by omega) (fun c_9 => ?_) (fun c_9 => ?_)
    · refine z_ldc _ dX1_tell_21 qX1_35 ?_
      refine y_ireturn dX1_tell_23 rfl ?_
      first | (rw [if_pos (by omega)]; exact yR_rfl) | (rw [if_neg (by omega)]; exact yR_rfl)
    · refine z_iload_n dX1_tell_12 rfl ?_
      refine z_if_lt 21 dX1_tell_13 (by decide) (by omega) (fun c_13 => ?_) (fun c_13 => ?_)
      · refine z_ldc _ dX1_tell_21 qX1_35 ?_
        refine y_ireturn dX1_tell_23 rfl ?_
        first | (rw [if_pos (by omega)]; exact yR_rfl) | (rw [if_neg (by omega)]; exact yR_rfl)
      · refine z_iload_n dX1_tell_16 rfl ?_
        refine z_iconst dX1_tell_17 ?_
        refine z_icmp_lt 24 dX1_tell_18 (by decide) (by omega) (by omega) (fun c_18 => ?_) (fun c_18 => ?_)
        · obtain ⟨i0, rfl⟩ : ∃ i0 : Nat, i = i0 := ⟨i.toNat, by omega⟩
          obtain ⟨a0, rfl⟩ : ∃ a0 : Nat, a = a0 := ⟨a.toNat, by omega⟩
          simp only [Int.toNat_natCast]
          refine z_aload_n dX1_tell_24 rfl ?_
          refine y_getR dX1_tell_25 fX1_11 (hB.lt (by decide)) (hB.2.1 19 (by decide)) rfl hr0 ?_
          refine z_iconst dX1_tell_28 ?_
          refine z_iload_n dX1_tell_29 rfl ?_
          refine z_imul dX1_tell_30 ?_
          refine z_iload_n dX1_tell_31 rfl ?_
          refine z_iadd dX1_tell_32 ?_
          refine y_ialoadJ (4 * i0 + a0) dX1_tell_33 hr1 hr2 (by omega) (by omega) ?_
          refine y_ireturn dX1_tell_34 rfl ?_
          first | (rw [if_pos (by omega)]; exact yR_rfl) | (rw [if_neg (by omega)]; exact yR_rfl)
        · refine z_ldc _ dX1_tell_21 qX1_35 ?_
          refine y_ireturn dX1_tell_23 rfl ?_
          first | (rw [if_pos (by omega)]; exact yR_rfl) | (rw [if_neg (by omega)]; exact yR_rfl)
set_option maxHeartbeats 4000000 in
set_option maxRecDepth 100000 in
theorem c_X1_add (hB : yB n sh P) {r rl b : Nat} (hr0 : P 19 0 = some r) (hr1 : r < n) (hr2 : sh r = (1, rl)) (hrl : rl ≤ 80000) (hb : I 19 1 = (b : Int)) (hbl : 4 * b + 4 ≤ rl) (hr9 : 19 ≠ r) {t w m d : Int} : yC l E jX1_add (rm 0 0) [.ref (zb E + 19), .int (iI t), .int (iI w), .int (iI m), .int (iI d)] n sh I P (yR (none) n sh (zup (zup (zup (zup (zup I r (4 * b) t) r (4 * b + 1) w) r (4 * b + 2) m) r (4 * b + 3) d) 19 1 ((b : Int) + 1)) P) := by
  refine yC_of (by decide) (Nat.le_of_ble_eq_true rfl) ?_
  refine z_iconst dX1_add_0 ?_
  refine z_aload_n dX1_add_1 rfl ?_
  refine y_getI dX1_add_2 fX1_15 (hB.lt (by decide)) (hB.2.1 19 (by decide)) rfl ?_
  refine z_top ((b : Int)) (hb) ?_
  refine z_imul dX1_add_5 ?_
  refine z_istore dX1_add_6 (by decide) ?_
  refine z_iload dX1_add_8 rfl ?_
  refine z_iconst dX1_add_10 ?_
  refine z_iadd dX1_add_11 ?_
  refine z_aload_n dX1_add_12 rfl ?_
  refine y_getR dX1_add_13 fX1_11 (hB.lt (by decide)) (hB.2.1 19 (by decide)) rfl hr0 ?_
  refine y_alen dX1_add_16 hr1 hr2 ?_
  refine z_icmp_le 21 dX1_add_17 (by decide) (by omega) (by omega) (fun c_17 => ?_) (fun c_17 => absurd (by omega) c_17)
  refine z_aload_n dX1_add_21 rfl ?_
  refine y_getR dX1_add_22 fX1_11 (hB.lt (by decide)) (hB.2.1 19 (by decide)) rfl hr0 ?_
  refine z_iload dX1_add_25 rfl ?_
  refine z_iload_n dX1_add_27 rfl ?_
  refine y_iastoreJ (4 * b) dX1_add_28 hr1 hr2 (by omega) (by omega) ?_
  refine z_aload_n dX1_add_29 rfl ?_
  refine y_getR dX1_add_30 fX1_11 (hB.lt (by decide)) (hB.2.1 19 (by decide)) rfl hr0 ?_
  refine z_iload dX1_add_33 rfl ?_
  refine z_iconst dX1_add_35 ?_
  refine z_iadd dX1_add_36 ?_
  refine z_iload_n dX1_add_37 rfl ?_
  refine y_iastoreJ (4 * b + 1) dX1_add_38 hr1 hr2 (by omega) (by omega) ?_
  refine z_aload_n dX1_add_39 rfl ?_
  refine y_getR dX1_add_40 fX1_11 (hB.lt (by decide)) (hB.2.1 19 (by decide)) rfl hr0 ?_
  refine z_iload dX1_add_43 rfl ?_
  refine z_iconst dX1_add_45 ?_
  refine z_iadd dX1_add_46 ?_
  refine z_iload_n dX1_add_47 rfl ?_
  refine y_iastoreJ (4 * b + 2) dX1_add_48 hr1 hr2 (by omega) (by omega) ?_
  refine z_aload_n dX1_add_49 rfl ?_
  refine y_getR dX1_add_50 fX1_11 (hB.lt (by decide)) (hB.2.1 19 (by decide)) rfl hr0 ?_
  refine z_iload dX1_add_53 rfl ?_
  refine z_iconst dX1_add_55 ?_
  refine z_iadd dX1_add_56 ?_
  refine z_iload dX1_add_57 rfl ?_
  refine y_iastoreJ (4 * b + 3) dX1_add_59 hr1 hr2 (by omega) (by omega) ?_
  refine z_aload_n dX1_add_60 rfl ?_
  refine z_dup dX1_add_61 rfl ?_
  refine y_getI dX1_add_62 fX1_15 (hB.lt (by decide)) (hB.2.1 19 (by decide)) rfl ?_
  refine z_top ((b : Int)) (by rw [zup_ne hr9, zup_ne hr9, zup_ne hr9, zup_ne hr9]; exact hb) ?_
  refine z_iconst dX1_add_65 ?_
  refine z_iadd dX1_add_66 ?_
  refine y_putI dX1_add_67 fX1_15 (hB.lt (by decide)) (hB.2.1 19 (by decide)) rfl ?_
  exact y_return dX1_add_70 rfl (yR_rfl)
end BF
