theorem gd_half {a b s K : Nat} (hb : 0 < b) (hba : b ≤ a) (h : a * b * 2 ^ s ≤ K) : b * (a % b) * 2 ^ (s + 1) ≤ K := by
  have h1 : a % b < b := Nat.mod_lt _ hb
  have h2 : a % b + b ≤ a := by
    have h3 := Nat.mod_add_div a b
    have h4 : 1 ≤ a / b := (Nat.le_div_iff_mul_le hb).mpr (by omega)
    have h5 : b * 1 ≤ b * (a / b) := Nat.mul_le_mul_left b h4
    omega
  have h6 : b * (a % b) * 2 ≤ a * b := by
    rw [Nat.mul_assoc, Nat.mul_comm a b]
    exact Nat.mul_le_mul_left b (by omega)
  calc b * (a % b) * 2 ^ (s + 1) = b * (a % b) * 2 * 2 ^ s := by rw [Nat.pow_succ, Nat.mul_comm (2 ^ s) 2, ← Nat.mul_assoc]
    _ ≤ a * b * 2 ^ s := Nat.mul_le_mul_right _ h6
    _ ≤ K := h
theorem gd_lt {a b s : Nat} (hb : 0 < b) (ha : 0 < a) (h : a * b * 2 ^ s ≤ 2 ^ 21) : s ≤ 21 := by
  refine Nat.le_of_not_lt (fun h1 => ?_)
  have h2 : 2 ^ 22 ≤ 2 ^ s := Nat.pow_le_pow_right (by decide) h1
  have h3 : 1 ≤ a * b := Nat.mul_pos ha hb
  have h4 : 1 * 2 ^ s ≤ a * b * 2 ^ s := Nat.mul_le_mul_right _ h3
  omega
theorem absL_eq {S : Int} (h : -50000000000 ≤ S ∧ S ≤ 50000000000) : (if 0 < iL S then iL S else -iL S) = iL ((S.natAbs : Nat) : Int) := by
  by_cases h0 : 0 < S
  · rw [if_pos (show (0 : Int64) < iL S from iL_0 ▸ (iL_lt (a := 0) (by omega) (by omega)).mpr h0), show ((S.natAbs : Nat) : Int) = S by omega]
  · rw [if_neg (show ¬ (0 : Int64) < iL S from fun q => h0 ((iL_lt (a := 0) (by omega) (by omega)).mp (iL_0 ▸ q))), iL_neg, show ((S.natAbs : Nat) : Int) = -S by omega]
theorem lvA_ext {r r' : Nat → Int} (h : ∀ i, i < 100 → r i = r' i) (x : Nat) : lvA r x = lvA r' x := by
  unfold lvA
  split
  · exact h x (by assumption)
  · rfl
theorem wSum_ext {lv lv' sk sk' : Nat → Int} (h1 : ∀ i, i < 100 → lv i = lv' i) (h2 : ∀ i, i < 100 → sk i = sk' i) (x : Nat) (wh du : Int) (n : Nat) : wSum lv sk x wh du n = wSum lv' sk' x wh du n := by
  unfold wSum
  exact sm_cong (fun k _ => by rw [lvA_ext h1, lvA_ext h2])
section BWo
variable {l : Launch} {E : zEnv} {n : Nat} {sh : Nat → Nat × Nat} {I : Nat → Nat → Int} {P : Nat → Nat → Option Nat}
set_option maxHeartbeats 4000000 in
set_option maxRecDepth 100000 in
theorem l_X6_greatestDivisor {x0 y0 : Nat} (hy : 0 < y0) : ∀ y : Nat, ∀ x s : Nat, (x ≤ 50000000000 ∧ y ≤ 1000) → Nat.gcd x y = Nat.gcd x0 y0 → (s = 0 ∨ (y < x ∧ x ≤ 1000 ∧ x * y * 2 ^ s ≤ 2 ^ 21)) → Z l E jX6_greatestDivisor (rm 1 23) (yE E 0 0 (yR (some (.long (iL ((Nat.gcd x0 y0 : Nat) : Int)))) n sh I P)) 0 0 (zw E n sh I P) 9 [(0, .long (iL (x0 : Int))), (2, .long (iL (y0 : Int))), (4, .long (iL (x : Int))), (6, .long (iL (y : Int))), (8, .int (iI s))] [] := by
  refine zloop (fun y : Nat => y) (fun y ih x s hxy hg hs => ?_)
  refine z_lload dX6_greatestDivisor_9 rfl ?_
  refine z_lconst 0 dX6_greatestDivisor_11 rfl ?_
  refine z_lcmp dX6_greatestDivisor_12 ?_
  refine z_ifx_eq 45 dX6_greatestDivisor_13 (by decide) (fun c_13 => ?_) (fun c_13 => ?_)
  · have hb0 : (y : Int) = 0 := (lgc_0 (by omega) (by omega)).mp c_13
    have hy1 : y = 0 := by omega
    subst hy1
    rw [Nat.gcd_zero_right] at hg
    have hxp : 0 < x := by have := Nat.gcd_pos_of_pos_right x0 hy; omega
    refine z_lconst 1 dX6_greatestDivisor_45 rfl ?_
    refine z_lload dX6_greatestDivisor_46 rfl ?_
    refine z_maxL dX6_greatestDivisor_48 mX6_246 (by decide) (Nat.le_of_ble_eq_true rfl) (by decide) (by decide) ?_
    refine z_topl (iL (x : Int)) (if_neg (fun q => by have := (iL_lt (by omega) (by omega)).mp q; omega)) ?_
    refine y_lreturn dX6_greatestDivisor_51 rfl ?_
    rw [← hg]
    exact yR_rfl
  · have hb0 : ¬ (y : Int) = 0 := fun h => c_13 ((lgc_0 (by omega) (by omega)).mpr h)
    have hbz : ¬ iL (y : Int) = 0 := fun h => hb0 ((iL_eq (by omega) (by omega)).mp (h.trans iL_0.symm))
    have hs9 : s ≤ 21 := hs.elim (fun h => by omega) (fun h => gd_lt (by omega) (by omega) h.2.2)
    refine z_iload dX6_greatestDivisor_16 rfl ?_
    refine z_sipush dX6_greatestDivisor_18 rfl ?_
    refine z_icmp_ge 45 dX6_greatestDivisor_21 (by decide) (by omega) (by omega) (fun c_21 => absurd c_21 (by omega)) (fun c_21 => ?_)
    refine z_lload dX6_greatestDivisor_24 rfl ?_
    refine z_lload dX6_greatestDivisor_26 rfl ?_
    refine z_lrem dX6_greatestDivisor_28 hbz ?_
    refine z_topl (iL ((x % y : Nat) : Int)) (iL_rem (by omega) (by omega)) ?_
    refine z_lstore dX6_greatestDivisor_29 (by decide) ?_
    refine z_lload dX6_greatestDivisor_31 rfl ?_
    refine z_lstore dX6_greatestDivisor_33 (by decide) ?_
    refine z_lload dX6_greatestDivisor_35 rfl ?_
    refine z_lstore dX6_greatestDivisor_37 (by decide) ?_
    refine z_iinc dX6_greatestDivisor_39 rfl (by decide) ?_
    refine z_goto 9 dX6_greatestDivisor_42 (by decide) ?_
    refine z_keys [0, 2, 4, 6, 8] ?_
    have hml : x % y < y := Nat.mod_lt _ (by omega)
    refine ih (x % y) (by omega) y (s + 1) ⟨by omega, by omega⟩ (by rw [Nat.gcd_comm, ← Nat.gcd_rec, Nat.gcd_comm]; exact hg) (Or.inr ⟨hml, by omega, ?_⟩)
    rcases hs with h | ⟨h1, h2, h3⟩
    · subst h
      have h4 : y * (x % y) ≤ 1000 * 1000 := Nat.mul_le_mul (by omega) (by omega)
      show y * (x % y) * 2 ≤ 2097152
      omega
    · exact gd_half (by omega) (by omega) h3
set_option maxHeartbeats 4000000 in
set_option maxRecDepth 100000 in
theorem c_X6_greatestDivisor {x0 y0 : Nat} (hx : x0 ≤ 50000000000) (hy : 0 < y0) (hy2 : y0 ≤ 1000) : yC l E jX6_greatestDivisor (rm 1 23) [.long (iL (x0 : Int)), .long (iL (y0 : Int))] n sh I P (yR (some (.long (iL ((Nat.gcd x0 y0 : Nat) : Int)))) n sh I P) := by
  refine yC_of (by decide) (Nat.le_of_ble_eq_true rfl) ?_
  refine z_lload_n dX6_greatestDivisor_0 rfl ?_
  refine z_lstore dX6_greatestDivisor_1 (by decide) ?_
  refine z_lload_n dX6_greatestDivisor_3 rfl ?_
  refine z_lstore dX6_greatestDivisor_4 (by decide) ?_
  refine z_iconst dX6_greatestDivisor_6 ?_
  refine z_istore dX6_greatestDivisor_7 (by decide) ?_
  refine z_keys [0, 2, 4, 6, 8] ?_
  exact l_X6_greatestDivisor hy y0 x0 0 ⟨by omega, by omega⟩ rfl (Or.inl rfl)
set_option maxHeartbeats 4000000 in
set_option maxRecDepth 100000 in
theorem c_X6_worth (hB : yB n sh P) {M : Nat → Nat → Int} {t mc rc pc bc c : Nat} {ma pa : Nat → Nat} {Ls : Nat → List Nat} {r rl : Nat} (hO : mOk M t mc rc pc bc c) (hC : cpl n sh I P M t mc rc pc bc ma pa Ls r rl) {m y a : Int} (hm : (-2147483648 ≤ m ∧ m ≤ 2147483647)) (hy : (-2147483648 ≤ y ∧ y ≤ 2147483647)) (ha : (-2147483648 ≤ a ∧ a ≤ 2147483647)) : yC l E jX6_worth (rm 2 53) [.ref (zb E + 0), .int (iI m), .int (iI y), .int (iI a)] n sh I P (kP (.long (iL (if ((0 ≤ m ∧ m < (mc : Int)) ∧ (1 ≤ y ∧ y ≤ 50) ∧ (0 ≤ a ∧ a ≤ 1) ∧ lvA (M 43) (xAge M t m.toNat) ≠ 0) then wRes (wSum (M 43) (M 44) (xAge M t m.toNat) (vF M (t : Int) rc 2 t) (vF M (t : Int) rc 0 t) y.toNat) (lvA (M 43) (xAge M t m.toNat)) a else -1000000))) I P M t mc rc pc bc rl) := by
  obtain ⟨hN6, hN7, hN8⟩ := hC.1
  have hb5 := hO.2.1
  by_cases hm0 : 0 ≤ m ∧ m < (mc : Int)
  · obtain ⟨m0, rfl⟩ : ∃ m0 : Nat, m = m0 := ⟨m.toNat, by omega⟩
    have hm1 : m0 < mc := by omega
    obtain ⟨hx, hMe⟩ := hC.2.2.2.1 m0 hm1
    have hMb := hMe.1
    simp only [Int.toNat_natCast]
    refine yC_of (by decide) (Nat.le_of_ble_eq_true rfl) ?_
    refine z_aload_n dX6_worth_0 rfl ?_
    refine z_iload_n dX6_worth_1 rfl ?_
    refine y_callV dX6_worth_2 kX6_61 (c_X6_memberAt hB hN6 (by omega) hm1 hx) (hB.lt (by decide)) (hB.2.1 0 (by decide)) rfl rfl rfl (Nat.le_of_ble_eq_true rfl) ⟨⟨by decide, by decide⟩, by decide, by decide⟩ (fun v2 n2 sh2 I2 P2 hp2 => ?_)
    obtain ⟨rfl, rfl, rfl, rfl, rfl⟩ := hp2
    refine z_astore dX6_worth_5 (by decide) ?_
    refine z_aload dX6_worth_7 rfl ?_
    refine z_ifnull dX6_worth_9 ?_
    refine z_iload_n dX6_worth_12 rfl ?_
    refine z_iconst dX6_worth_13 ?_
    refine z_icmp_lt 32 dX6_worth_14 (by decide) (by omega) (by omega) (fun c_14 => ?_) (fun c_14 => ?_)
    · refine z_ldc2 _ dX6_worth_32 qX6_176 ?_
      refine y_lreturn dX6_worth_35 rfl ?_
      rw [if_neg (fun h => by omega)]
      exact kP.same hB hC
    · refine z_iload_n dX6_worth_17 rfl ?_
      refine z_bipush dX6_worth_18 rfl ?_
      refine z_icmp_gt 32 dX6_worth_20 (by decide) (by omega) (by omega) (fun c_20 => ?_) (fun c_20 => ?_)
      · refine z_ldc2 _ dX6_worth_32 qX6_176 ?_
        refine y_lreturn dX6_worth_35 rfl ?_
        rw [if_neg (fun h => by omega)]
        exact kP.same hB hC
      · refine z_iload_n dX6_worth_23 rfl ?_
        refine z_if_lt 32 dX6_worth_24 (by decide) (by omega) (fun c_24 => ?_) (fun c_24 => ?_)
        · refine z_ldc2 _ dX6_worth_32 qX6_176 ?_
          refine y_lreturn dX6_worth_35 rfl ?_
          rw [if_neg (fun h => by omega)]
          exact kP.same hB hC
        · refine z_iload_n dX6_worth_27 rfl ?_
          refine z_iconst dX6_worth_28 ?_
          refine z_icmp_le 36 dX6_worth_29 (by decide) (by omega) (by omega) (fun c_29 => ?_) (fun c_29 => ?_)
          · obtain ⟨y0, rfl⟩ : ∃ y0 : Nat, y = y0 := ⟨y.toNat, by omega⟩
            simp only [Int.toNat_natCast]
            have hag := hO.2.2.2.2.1 m0 hm1
            have hj := hO.jnn hm1
            have hxa : (xAge M t m0) ≤ 66 := by unfold xAge; omega
            have hAr := lvA_rng (r := M 43) (by decide) (fun i hi => (hO.2.2.2.2.2.2.2 i hi).1) (xAge M t m0)
            have hwh := vF_rng (I := M) (q := (t : Int)) (w := t) hO.2.2.1.1 (by decide : 2 < 7)
            have hdu := vF_rng (I := M) (q := (t : Int)) (w := t) hO.2.2.1.1 (by decide : 0 < 7)
            have hSr := wSum_rng (x := (xAge M t m0)) (n := y0) (fun i hi => (hO.2.2.2.2.2.2.2 i hi).1) (fun i hi => (hO.2.2.2.2.2.2.2 i hi).2) hwh hdu (by omega)
            have hT := hC.2.2.2.2.2.2.2.2.2.2
            refine z_aload dX6_worth_36 rfl ?_
            refine y_getI dX6_worth_38 fX6_178 hMb.l0 hMb.2.1 rfl ?_
            refine z_top (M 25 m0) (hMe.2.1.1) ?_
            refine z_aload_n dX6_worth_41 rfl ?_
            refine y_getI dX6_worth_42 fX6_55 (hB.lt (by decide)) (hB.2.1 0 (by decide)) rfl ?_
            refine z_top ((t : Int)) (hN8) ?_
            refine z_aload dX6_worth_45 rfl ?_
            refine y_getI dX6_worth_47 fX6_100 hMb.l0 hMb.2.1 rfl ?_
            refine z_top (M 27 m0) (hMe.2.1.2.2) ?_
            refine z_isub dX6_worth_50 ?_
            refine z_bipush dX6_worth_51 rfl ?_
            refine z_idiv dX6_worth_53 (by omega) (by omega) ?_
            refine z_iadd dX6_worth_54 ?_
            refine z_top ((((xAge M t m0) : Nat) : Int)) (by rw [Int.tdiv_eq_ediv_of_nonneg (by omega)]; unfold xAge jn; omega) ?_
            refine z_istore dX6_worth_55 (by decide) ?_
            refine z_aload_n dX6_worth_57 rfl ?_
            refine y_getR dX6_worth_58 fX6_47 (hB.lt (by decide)) (hB.2.1 0 (by decide)) rfl (hB.2.2.1 5) ?_
            refine z_iload dX6_worth_61 rfl ?_
            refine y_callV dX6_worth_63 kX6_181 (c_X5_livingAt (x := (xAge M t m0)) hB (by omega)) (hB.lt (by decide)) (hB.2.1 21 (by decide)) rfl rfl rfl (Nat.le_of_ble_eq_true rfl) ⟨⟨by decide, by decide⟩, by decide, by decide⟩ (fun v63 n63 sh63 I63 P63 hp63 => ?_)
            obtain ⟨rfl, rfl, rfl, rfl, rfl⟩ := hp63
            refine z_top (lvA (M 43) (xAge M t m0)) (lvA_ext (fun i hi => (hT i hi).1) _) ?_
            refine z_i2l dX6_worth_66 (by omega) ?_
            refine z_lstore dX6_worth_67 (by decide) ?_
            refine z_lload dX6_worth_69 rfl ?_
            refine z_lconst 1 dX6_worth_71 rfl ?_
            refine z_lcmp dX6_worth_72 ?_
            refine z_ifx_ge 80 dX6_worth_73 (by decide) (fun c_73 => ?_) (fun c_73 => ?_)
            · have h1 : 1 ≤ (lvA (M 43) (xAge M t m0)) := (lgc_ge (by omega) (by omega)).mp c_73
              rw [if_pos ⟨hm0, by omega, by omega, by omega⟩]
              obtain ⟨al, hal⟩ : ∃ al : Nat, (lvA (M 43) (xAge M t m0)) = (al : Int) := ⟨((lvA (M 43) (xAge M t m0))).toNat, by omega⟩
              rw [hal] at h1 hAr ⊢
              refine z_aload_n dX6_worth_80 rfl ?_
              refine y_getR dX6_worth_81 fX6_24 (hB.lt (by decide)) (hB.2.1 0 (by decide)) rfl (hB.2.2.1 2) ?_
              refine z_iconst dX6_worth_84 ?_
              refine z_aload_n dX6_worth_85 rfl ?_
              refine y_getI dX6_worth_86 fX6_55 (hB.lt (by decide)) (hB.2.1 0 (by decide)) rfl ?_
              refine z_top ((t : Int)) (hN8) ?_
              refine z_aload_n dX6_worth_89 rfl ?_
              refine y_getI dX6_worth_90 fX6_55 (hB.lt (by decide)) (hB.2.1 0 (by decide)) rfl ?_
              refine z_top ((t : Int)) (hN8) ?_
              refine y_callV dX6_worth_93 kX6_148 (c_X4_inForce (k := 2) (w := (t : Int)) (q := (t : Int)) hB hC.2.1.1 (by omega) (cpl.Rl hO hC) (by omega) (by omega) (by omega)) (hB.lt (by decide)) (hB.2.1 3 (by decide)) rfl rfl rfl (Nat.le_of_ble_eq_true rfl) ⟨⟨by decide, by decide⟩, by decide, by decide⟩ (fun v93 n93 sh93 I93 P93 hp93 => ?_)
              obtain ⟨rfl, rfl, rfl, rfl, rfl⟩ := hp93
              refine z_top (vF M (t : Int) rc 2 t) (cpl.fo hO hC 2 (t : Int) (t : Int)) ?_
              refine z_istore dX6_worth_96 (by decide) ?_
              refine z_aload_n dX6_worth_98 rfl ?_
              refine y_getR dX6_worth_99 fX6_24 (hB.lt (by decide)) (hB.2.1 0 (by decide)) rfl (hB.2.2.1 2) ?_
              refine z_iconst dX6_worth_102 ?_
              refine z_aload_n dX6_worth_103 rfl ?_
              refine y_getI dX6_worth_104 fX6_55 (hB.lt (by decide)) (hB.2.1 0 (by decide)) rfl ?_
              refine z_top ((t : Int)) (hN8) ?_
              refine z_aload_n dX6_worth_107 rfl ?_
              refine y_getI dX6_worth_108 fX6_55 (hB.lt (by decide)) (hB.2.1 0 (by decide)) rfl ?_
              refine z_top ((t : Int)) (hN8) ?_
              refine y_callV dX6_worth_111 kX6_148 (c_X4_inForce (k := 0) (w := (t : Int)) (q := (t : Int)) hB hC.2.1.1 (by omega) (cpl.Rl hO hC) (by omega) (by omega) (by omega)) (hB.lt (by decide)) (hB.2.1 3 (by decide)) rfl rfl rfl (Nat.le_of_ble_eq_true rfl) ⟨⟨by decide, by decide⟩, by decide, by decide⟩ (fun v111 n111 sh111 I111 P111 hp111 => ?_)
              obtain ⟨rfl, rfl, rfl, rfl, rfl⟩ := hp111
              refine z_top (vF M (t : Int) rc 0 t) (cpl.fo hO hC 0 (t : Int) (t : Int)) ?_
              refine z_istore dX6_worth_114 (by decide) ?_
              refine z_aload_n dX6_worth_116 rfl ?_
              refine y_getR dX6_worth_117 fX6_47 (hB.lt (by decide)) (hB.2.1 0 (by decide)) rfl (hB.2.2.1 5) ?_
              refine z_iload dX6_worth_120 rfl ?_
              refine z_iload_n dX6_worth_122 rfl ?_
              refine z_iload dX6_worth_123 rfl ?_
              refine z_bipush dX6_worth_125 rfl ?_
              refine z_iload dX6_worth_127 rfl ?_
              refine z_imul dX6_worth_129 ?_
              refine y_callV dX6_worth_130 kX6_184 (c_X5_sumOver (x := (xAge M t m0)) (yr := y0) (wh := (vF M (t : Int) rc 2 t)) (du := (vF M (t : Int) rc 0 t)) hB (by omega) (by omega) hwh hdu (fun i hi => by rw [(hT i hi).1]; exact (hO.2.2.2.2.2.2.2 i hi).1) (fun i hi => by rw [(hT i hi).2]; exact (hO.2.2.2.2.2.2.2 i hi).2)) (hB.lt (by decide)) (hB.2.1 21 (by decide)) rfl rfl rfl (Nat.le_of_ble_eq_true rfl) ⟨⟨by decide, by decide⟩, by decide, by decide⟩ (fun v130 n130 sh130 I130 P130 hp130 => ?_)
              obtain ⟨rfl, rfl, rfl, rfl, rfl⟩ := hp130
              refine z_topl (iL (wSum (M 43) (M 44) (xAge M t m0) (vF M (t : Int) rc 2 t) (vF M (t : Int) rc 0 t) y0)) (congrArg iL (wSum_ext (fun i hi => (hT i hi).1) (fun i hi => (hT i hi).2) _ _ _ _)) ?_
              refine z_lstore dX6_worth_133 (by decide) ?_
              refine z_lload dX6_worth_135 rfl ?_
              refine z_absL dX6_worth_137 mX6_188 (by decide) (Nat.le_of_ble_eq_true rfl) (by decide) (by decide) ?_
              refine z_topl (iL ((((wSum (M 43) (M 44) (xAge M t m0) (vF M (t : Int) rc 2 t) (vF M (t : Int) rc 0 t) y0)).natAbs : Nat) : Int)) (absL_eq hSr) ?_
              refine z_lload dX6_worth_140 rfl ?_
              refine y_callS dX6_worth_142 kX6_194 (c_X6_greatestDivisor (x0 := ((wSum (M 43) (M 44) (xAge M t m0) (vF M (t : Int) rc 2 t) (vF M (t : Int) rc 0 t) y0)).natAbs) (y0 := al) (by omega) (by omega) (by omega)) rfl rfl (Nat.le_of_ble_eq_true rfl) ⟨⟨by decide, by decide⟩, by decide, by decide⟩ (fun v142 n142 sh142 I142 P142 hp142 => ?_)
              obtain ⟨rfl, rfl, rfl, rfl, rfl⟩ := hp142
              have hgp : 0 < Nat.gcd ((wSum (M 43) (M 44) (xAge M t m0) (vF M (t : Int) rc 2 t) (vF M (t : Int) rc 0 t) y0)).natAbs al := Nat.gcd_pos_of_pos_right _ (by omega)
              have hgl : Nat.gcd ((wSum (M 43) (M 44) (xAge M t m0) (vF M (t : Int) rc 2 t) (vF M (t : Int) rc 0 t) y0)).natAbs al ≤ al := Nat.gcd_le_right _ (by omega)
              have hge : Int.gcd (wSum (M 43) (M 44) (xAge M t m0) (vF M (t : Int) rc 2 t) (vF M (t : Int) rc 0 t) y0) (al : Int) = Nat.gcd ((wSum (M 43) (M 44) (xAge M t m0) (vF M (t : Int) rc 2 t) (vF M (t : Int) rc 0 t) y0)).natAbs al := rfl
              generalize Nat.gcd ((wSum (M 43) (M 44) (xAge M t m0) (vF M (t : Int) rc 2 t) (vF M (t : Int) rc 0 t) y0)).natAbs al = g at hgp hgl hge ⊢
              have hnz : ¬ iL (g : Int) = 0 := fun h => by have h2 := (iL_eq (by omega) (by omega)).mp (h.trans iL_0.symm); omega
              refine z_lstore dX6_worth_145 (by decide) ?_
              refine z_iload_n dX6_worth_147 rfl ?_
              refine z_if_ne 159 dX6_worth_148 (by decide) (by omega) (fun c_148 => ?_) (fun c_148 => ?_)
              · refine z_lload dX6_worth_159 rfl ?_
                refine z_lload dX6_worth_161 rfl ?_
                refine z_ldiv dX6_worth_163 hnz ?_
                refine z_topl (iL ((al : Int).tdiv (g : Int))) (iL_div (by omega) (by omega)) ?_
                refine y_lreturn dX6_worth_164 rfl ?_
                unfold wRes
                rw [hge]
                first | (rw [if_pos (by omega)]; exact kP.same hB hC) | (rw [if_neg (by omega)]; exact kP.same hB hC)
              · refine z_lload dX6_worth_151 rfl ?_
                refine z_lload dX6_worth_153 rfl ?_
                refine z_ldiv dX6_worth_155 hnz ?_
                refine z_topl (iL (((wSum (M 43) (M 44) (xAge M t m0) (vF M (t : Int) rc 2 t) (vF M (t : Int) rc 0 t) y0)).tdiv (g : Int))) (iL_div (by omega) (by omega)) ?_
                refine z_goto 164 dX6_worth_156 (by decide) ?_
                refine y_lreturn dX6_worth_164 rfl ?_
                unfold wRes
                rw [hge]
                first | (rw [if_pos (by omega)]; exact kP.same hB hC) | (rw [if_neg (by omega)]; exact kP.same hB hC)
            · have h0 : ¬ 1 ≤ (lvA (M 43) (xAge M t m0)) := fun h => c_73 ((lgc_ge (by omega) (by omega)).mpr h)
              refine z_ldc2 _ dX6_worth_76 qX6_176 ?_
              refine y_lreturn dX6_worth_79 rfl ?_
              rw [if_neg (fun h => h.2.2.2 (by omega))]
              exact kP.same hB hC
          · refine z_ldc2 _ dX6_worth_32 qX6_176 ?_
            refine y_lreturn dX6_worth_35 rfl ?_
            rw [if_neg (fun h => by omega)]
            exact kP.same hB hC
  · refine yC_of (by decide) (Nat.le_of_ble_eq_true rfl) ?_
    refine z_aload_n dX6_worth_0 rfl ?_
    refine z_iload_n dX6_worth_1 rfl ?_
    refine y_callV dX6_worth_2 kX6_61 (c_X6_memberAt_no hB hN6 (by omega) hm hm0) (hB.lt (by decide)) (hB.2.1 0 (by decide)) rfl rfl rfl (Nat.le_of_ble_eq_true rfl) ⟨⟨by decide, by decide⟩, by decide, by decide⟩ (fun v2 n2 sh2 I2 P2 hp2 => ?_)
    obtain ⟨rfl, rfl, rfl, rfl, rfl⟩ := hp2
    refine z_astoreN dX6_worth_5 (by decide) ?_
    refine z_aloadN dX6_worth_7 rfl ?_
    refine z_ifnullN 32 dX6_worth_9 (by decide) ?_
    refine z_ldc2 _ dX6_worth_32 qX6_176 ?_
    refine y_lreturn dX6_worth_35 rfl ?_
    rw [if_neg (fun h => hm0 h.1)]
    exact kP.same hB hC
end BWo
