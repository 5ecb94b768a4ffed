theorem yB.ext {n n' : Nat} {sh sh' : Nat → Nat × Nat} {P P' : Nat → Nat → Option Nat} (h : yB n sh P) (hn : n ≤ n') (hs : ∀ x, x < 52 → sh' x = sh x) (hP : ∀ x b, x < 24 → ¬ x = 1 → ¬ x = 2 → ¬ (x = 17 ∧ 2 ≤ b) → ¬ x = 19 → P' x b = P x b) : yB n' sh' P' := by
  obtain ⟨h1, h2, h3, h4, h5, h6, h7⟩ := h
  refine ⟨by omega, fun k hk => by rw [hs k hk]; exact h2 k hk, fun j => ?_, fun j => ?_, fun j hj => ?_, fun j hj => ?_, fun j => ?_⟩
  · rw [hP 0 j (by omega) (by omega) (by omega) (by omega) (by omega)]; exact h3 j
  · rw [hP 3 j (by omega) (by omega) (by omega) (by omega) (by omega)]; exact h4 j
  · rw [hP 8 j (by omega) (by omega) (by omega) (by omega) (by omega)]; exact h5 j hj
  · rw [hP 17 j (by omega) (by omega) (by omega) (by omega) (by omega)]; exact h6 j hj
  · rw [hP 21 j (by omega) (by omega) (by omega) (by omega) (by omega)]; exact h7 j
theorem mPy_vF {M : Nat → Nat → Int} {m t : Nat} {s q : Int} {many : Nat} : vF (mPy M m t s) q many = vF M q many := by
  funext k w
  exact vF_to (fun i _ => by rw [mPy_ne (by omega), mPy_ne (by omega), mPy_ne (by omega), mPy_ne (by omega)]; exact ⟨rfl, rfl, rfl, rfl⟩)
theorem mPy_jn {M : Nat → Nat → Int} {m m' t : Nat} {s : Int} : jn (mPy M m t s) m' = jn M m' := by unfold jn; rw [mPy_ne (by omega)]
section BMu
variable {l : Launch} {E : zEnv} {n : Nat} {sh : Nat → Nat × Nat} {I : Nat → Nat → Int} {P : Nat → Nat → Option Nat}
set_option maxHeartbeats 4000000 in
set_option maxRecDepth 100000 in
theorem c_X6_table (hB : yB n sh P) {M : Nat → Nat → Int} {t mc rc pc bc c : Nat} {ma pa : Nat → Nat} {Ls : Nat → List Nat} {r rl : Nat} (hO : mOk M t mc rc pc bc c) (hC : cpl n sh I P M t mc rc pc bc ma pa Ls r rl) {y a s : Int} (hy : (-2147483648 ≤ y ∧ y ≤ 2147483647)) (ha : (-2147483648 ≤ a ∧ a ≤ 2147483647)) (hs : (-2147483648 ≤ s ∧ s ≤ 2147483647)) : yC l E jX6_table (rm 1 23) [.ref (zb E + 0), .int (iI y), .int (iI a), .int (iI s)] n sh I P (kP (.int (iI (bI ((0 ≤ y ∧ y ≤ 99) ∧ (0 ≤ a ∧ a ≤ 1000) ∧ (0 ≤ s ∧ s ≤ 365))))) I P (if ((0 ≤ y ∧ y ≤ 99) ∧ (0 ≤ a ∧ a ≤ 1000) ∧ (0 ≤ s ∧ s ≤ 365)) then zup (zup M 43 y.toNat a) 44 y.toNat s else M) t mc rc pc bc rl) := by
  obtain ⟨hN6, hN7, hN8⟩ := hC.1
  have hb5 := hO.2.1
  refine yC_of (by decide) (Nat.le_of_ble_eq_true rfl) ?_
  refine z_aload_n dX6_table_0 rfl ?_
  refine y_getR dX6_table_1 fX6_47 (hB.lt (by decide)) (hB.2.1 0 (by decide)) rfl (hB.2.2.1 5) ?_
  refine z_iload_n dX6_table_4 rfl ?_
  refine z_iload_n dX6_table_5 rfl ?_
  refine z_iload_n dX6_table_6 rfl ?_
  refine y_callV dX6_table_7 kX6_135 (c_X5_change hB hy ha hs) (hB.lt (by decide)) (hB.2.1 21 (by decide)) rfl rfl rfl (Nat.le_of_ble_eq_true rfl) ⟨⟨by decide, by decide⟩, by decide, by decide⟩ (fun v7 n7 sh7 I7 P7 hp7 => ?_)
  obtain ⟨rfl, rfl, rfl, rfl, rfl⟩ := hp7
  refine y_zreturn dX6_table_10 rfl (bI_or _) ?_
  by_cases hk : ((0 ≤ y ∧ y ≤ 99) ∧ (0 ≤ a ∧ a ≤ 1000) ∧ (0 ≤ s ∧ s ≤ 365))
  · rw [if_pos hk, if_pos hk]; exact ⟨rfl, ⟨hB, fun a h1 _ => by rw [zup_ne (by omega), zup_ne (by omega)], rfl⟩, _, _, _, _, cpl.table hC hO⟩
  · rw [if_neg hk, if_neg hk]; exact kP.same hB hC
set_option maxHeartbeats 4000000 in
set_option maxRecDepth 100000 in
theorem c_X6_pay (hB : yB n sh P) {M : Nat → Nat → Int} {t mc rc pc bc c : Nat} {ma pa : Nat → Nat} {Ls : Nat → List Nat} {r rl : Nat} (hO : mOk M t mc rc pc bc c) (hC : cpl n sh I P M t mc rc pc bc ma pa Ls r rl) (hc1 : c + 1 ≤ 512) {m s : Int} (hm : (-2147483648 ≤ m ∧ m ≤ 2147483647)) (hs : (-2147483648 ≤ s ∧ s ≤ 2147483647)) : yC l E jX6_pay (rm 3 70) [.ref (zb E + 0), .int (iI m), .int (iI s)] n sh I P (kP (.int (iI (if ((0 ≤ m ∧ m < (mc : Int)) ∧ (1 ≤ s ∧ s ≤ 1000)) then arr (vF M t rc 0) (pd (mPy M m.toNat t s) m.toNat) (jn M m.toNat) t t else -1000000))) I P (if ((0 ≤ m ∧ m < (mc : Int)) ∧ (1 ≤ s ∧ s ≤ 1000)) then mPy M m.toNat t s else M) t mc rc pc bc rl) := by
  obtain ⟨hN6, hN7, hN8⟩ := hC.1
  have hb5 := hO.2.1
  by_cases hm0 : 0 ≤ m ∧ m < (mc : Int)
  · obtain ⟨m0, rfl⟩ : ∃ m0 : Nat, m = m0 := ⟨m.toNat, by omega⟩
    have hm1 : m0 < mc := by omega
    obtain ⟨hx, hMe⟩ := hC.2.2.2.1 m0 hm1
    have hMb := hMe.1
    simp only [Int.toNat_natCast]
    refine yC_of (by decide) (Nat.le_of_ble_eq_true rfl) ?_
    refine z_aload_n dX6_pay_0 rfl ?_
    refine z_iload_n dX6_pay_1 rfl ?_
    refine y_callV dX6_pay_2 kX6_61 (c_X6_memberAt hB hN6 (by omega) hm1 hx) (hB.lt (by decide)) (hB.2.1 0 (by decide)) rfl rfl rfl (Nat.le_of_ble_eq_true rfl) ⟨⟨by decide, by decide⟩, by decide, by decide⟩ (fun v2 n2 sh2 I2 P2 hp2 => ?_)
    obtain ⟨rfl, rfl, rfl, rfl, rfl⟩ := hp2
    refine z_astore_n dX6_pay_5 (by decide) ?_
    refine z_aload_n dX6_pay_6 rfl ?_
    refine z_ifnull dX6_pay_7 ?_
    refine z_iload_n dX6_pay_10 rfl ?_
    refine z_iconst dX6_pay_11 ?_
    refine z_icmp_lt 22 dX6_pay_12 (by decide) (by omega) (by omega) (fun c_12 => ?_) (fun c_12 => ?_)
    · refine z_ldc _ dX6_pay_22 qX6_65 ?_
      refine y_ireturn dX6_pay_24 rfl ?_
      rw [if_neg (by omega), if_neg (by omega)]
      exact kP.same hB hC
    · refine z_iload_n dX6_pay_15 rfl ?_
      refine z_sipush dX6_pay_16 rfl ?_
      refine z_icmp_le 25 dX6_pay_19 (by decide) (by omega) (by omega) (fun c_19 => ?_) (fun c_19 => ?_)
      · have hs0 : 1 ≤ s ∧ s ≤ 1000 := by omega
        have h52 := hMb.1
        refine z_aload_n dX6_pay_25 rfl ?_
        refine y_getR dX6_pay_26 fX6_66 hMb.l0 hMb.2.1 rfl hMb.2.2.2.2.2.1 ?_
        refine z_aload_n dX6_pay_29 rfl ?_
        refine y_getI dX6_pay_30 fX6_55 (hB.lt (by decide)) (hB.2.1 0 (by decide)) rfl ?_
        refine z_top ((t : Int)) (hN8) ?_
        refine z_dup2 dX6_pay_33 rfl rfl ?_
        refine y_ialoadJ (t) dX6_pay_34 hMb.l1 hMb.2.2.1 (by omega) (by decide) ?_
        refine z_iload_n dX6_pay_35 rfl ?_
        refine z_iadd dX6_pay_36 ?_
        refine y_iastoreJ (t) dX6_pay_37 hMb.l1 hMb.2.2.1 (by omega) (by decide) ?_
        have hC1 := cpl.pay (s := s) hC hO hm1
        have hO1 := hO.pay hm1 hs0 hc1
        obtain ⟨hN6, hN7, hN8⟩ := hC1.1
        refine z_aload_n dX6_pay_38 rfl ?_
        refine y_getR dX6_pay_39 fX6_24 (hB.lt (by decide)) (hB.2.1 0 (by decide)) rfl (hB.2.2.1 2) ?_
        refine z_aload_n dX6_pay_42 rfl ?_
        refine y_getI dX6_pay_43 fX6_55 (hB.lt (by decide)) (hB.2.1 0 (by decide)) rfl ?_
        refine z_top ((t : Int)) (hN8) ?_
        refine z_aload_n dX6_pay_46 rfl ?_
        refine y_getI dX6_pay_47 fX6_55 (hB.lt (by decide)) (hB.2.1 0 (by decide)) rfl ?_
        refine z_top ((t : Int)) (hN8) ?_
        refine y_callV dX6_pay_50 kX6_70 (c_X4_lookFrom (q := (t : Int)) (T := t) hB hC1.2.1.1 (by omega) (cpl.Rl hO1 hC1) hC1.2.1.2.2.2.1 (by omega) (by omega)) (hB.lt (by decide)) (hB.2.1 3 (by decide)) rfl rfl rfl (Nat.le_of_ble_eq_true rfl) ⟨⟨by decide, by decide⟩, by decide, by decide⟩ (fun v50 n50 sh50 I50 P50 hp50 => ?_)
        obtain ⟨rfl, rfl, rfl, rfl, h50⟩ := hp50
        obtain ⟨hC2, hV, h16, hr⟩ := cpl.look hO1 hC1 h50
        have hg := cpl.go (q := t) hO1 hC1 hr hm1 hV h16 (fun k w hk _ => vF_rng hO1.2.2.1.1 hk)
        refine z_aload_n dX6_pay_53 rfl ?_
        refine z_aload_n dX6_pay_54 rfl ?_
        refine y_getI dX6_pay_55 fX6_55 (hB.lt (by decide)) (hB.2.1 0 (by decide)) rfl ?_
        refine z_top ((t : Int)) (hC2.1.2.2) ?_
        refine z_aload_n dX6_pay_58 rfl ?_
        refine y_getI dX6_pay_59 fX6_55 (hB.lt (by decide)) (hB.2.1 0 (by decide)) rfl ?_
        refine z_top ((t : Int)) (hC2.1.2.2) ?_
        refine z_aload_n dX6_pay_62 rfl ?_
        refine y_getR dX6_pay_63 fX6_24 (hB.lt (by decide)) (hB.2.1 0 (by decide)) rfl (hB.2.2.1 2) ?_
        refine y_callV dX6_pay_66 kX6_74 (c_X2_arrearsIn (w := t) (q := t) hB hMb (by omega) (by omega) hg.1.2.1 hg.1.2.2) hMb.l0 hMb.2.1 rfl rfl rfl (Nat.le_of_ble_eq_true rfl) ⟨⟨by decide, by decide⟩, by decide, by decide⟩ (fun v66 n66 sh66 I66 P66 hp66 => ?_)
        obtain ⟨rfl, rfl, rfl, rfl, rfl⟩ := hp66
        rw [hg.2.2.2.2.1 t (by omega), mPy_vF, mPy_jn]
        refine y_ireturn dX6_pay_69 rfl ?_
        rw [if_pos ⟨hm0, hs0⟩, if_pos ⟨hm0, hs0⟩]
        exact ⟨rfl, ⟨hB, fun a h1 h2 => by rw [hr a (by omega), zup_ne (by omega)], rfl⟩, _, _, _, _, hC2⟩
      · refine z_ldc _ dX6_pay_22 qX6_65 ?_
        refine y_ireturn dX6_pay_24 rfl ?_
        rw [if_neg (by omega), if_neg (by omega)]
        exact kP.same hB hC
  · refine yC_of (by decide) (Nat.le_of_ble_eq_true rfl) ?_
    refine z_aload_n dX6_pay_0 rfl ?_
    refine z_iload_n dX6_pay_1 rfl ?_
    refine y_callV dX6_pay_2 kX6_61 (c_X6_memberAt_no hB hN6 (by omega) hm hm0) (hB.lt (by decide)) (hB.2.1 0 (by decide)) rfl rfl rfl (Nat.le_of_ble_eq_true rfl) ⟨⟨by decide, by decide⟩, by decide, by decide⟩ (fun v2 n2 sh2 I2 P2 hp2 => ?_)
    obtain ⟨rfl, rfl, rfl, rfl, rfl⟩ := hp2
    refine z_astore_nN dX6_pay_5 (by decide) ?_
    refine z_aload_nN dX6_pay_6 rfl ?_
    refine z_ifnullN 22 dX6_pay_7 (by decide) ?_
    refine z_ldc _ dX6_pay_22 qX6_65 ?_
    refine y_ireturn dX6_pay_24 rfl ?_
    rw [if_neg (fun h => hm0 h.1), if_neg (fun h => hm0 h.1)]
    exact kP.same hB hC
set_option maxHeartbeats 4000000 in
set_option maxRecDepth 100000 in
theorem l_X6_rule (hB : yB n sh P) {M : Nat → Nat → Int} {t mc rc pc bc c : Nat} {ma pa : Nat → Nat} {Ls : Nat → List Nat} {r rl : Nat} (hO : mOk M t mc rc pc bc c) (hC : cpl n sh I P M t mc rc pc bc ma pa Ls r rl) {k f v : Int} (hru : sRule k f v) (hrc : rc < 200) : ∀ i : Nat, i ≤ mc → Z l E jX6_rule (rm 2 48) (yE E 0 0 (kP (.int (iI ((rc : Int) + 1))) I P (mRu M rc k f v (t : Int)) t mc (rc + 1) pc bc rl)) 0 0 (zw E n sh (stI (zup (bWr I rc k f v (t : Int)) 3 4 ((rc : Int) + 1)) ma i) P) 38 [(0, .ref (zb E + 0)), (4, .int (iI i))] [] := by
  obtain ⟨hN6, hN7, hN8⟩ := hC.1
  have hb5 := hO.2.1
  refine zloop (fun i : Nat => mc - i) (fun i ih hi0 => ?_)
  refine z_iload dX6_rule_38 rfl ?_
  refine z_aload_n dX6_rule_40 rfl ?_
  refine y_getI dX6_rule_41 fX6_51 (hB.lt (by decide)) (hB.2.1 0 (by decide)) rfl ?_
  refine z_top ((mc : Int)) (by rw [stI_7 (by decide), zup_ne (by decide), bWr_ne (by omega)]; exact hN6) ?_
  refine z_icmp_ge 64 dX6_rule_44 (by decide) (by omega) (by omega) (fun c_44 => ?_) (fun c_44 => ?_)
  · have em : i = mc := by omega
    subst em
    refine z_aload_n dX6_rule_64 rfl ?_
    refine y_getR dX6_rule_65 fX6_24 (hB.lt (by decide)) (hB.2.1 0 (by decide)) rfl (hB.2.2.1 2) ?_
    refine y_getI dX6_rule_68 fX6_94 (hB.lt (by decide)) (hB.2.1 3 (by decide)) rfl ?_
    refine z_top ((rc : Int) + 1) (by rw [stI_7 (by decide)]; simp [zup]) ?_
    exact y_ireturn dX6_rule_71 rfl (⟨rfl, ⟨hB, fun a h1 h2 => by rw [stI_ne (fun m hm => by have := (hC.2.2.2.1 m hm).2.1.1; omega), zup_ne (by omega), bWr_ne (by omega)], rfl⟩, _, _, _, _, cpl.rule hC hO hru hrc⟩)
  · obtain ⟨hx, hMe⟩ := hC.2.2.2.1 i (by omega)
    have hMb := hMe.1
    refine z_aload_n dX6_rule_47 rfl ?_
    refine y_getR dX6_rule_48 fX6_11 (hB.lt (by decide)) (hB.2.1 0 (by decide)) rfl (hB.2.2.1 0) ?_
    refine z_iload dX6_rule_51 rfl ?_
    refine y_aaload dX6_rule_53 (hB.lt (by decide)) (hB.2.1 1 (by decide)) (by decide) (by omega) (by decide) (by rw [Int.toNat_natCast]; exact hx) ?_
    refine z_iconst dX6_rule_54 ?_
    refine y_putZ dX6_rule_55 fX6_90 hMb.l0 hMb.2.1 rfl (by decide) ?_
    refine z_iinc dX6_rule_58 rfl (by decide) ?_
    refine z_goto 38 dX6_rule_61 (by decide) ?_
    refine z_keys [0, 4] ?_
    exact ih (i + 1) (by omega) (by omega)
set_option maxHeartbeats 4000000 in
set_option maxRecDepth 100000 in
theorem c_X6_rule (hB : yB n sh P) {M : Nat → Nat → Int} {t mc rc pc bc c : Nat} {ma pa : Nat → Nat} {Ls : Nat → List Nat} {r rl : Nat} (hO : mOk M t mc rc pc bc c) (hC : cpl n sh I P M t mc rc pc bc ma pa Ls r rl) {k f v : Int} (hk : (-2147483648 ≤ k ∧ k ≤ 2147483647)) (hf : (-2147483648 ≤ f ∧ f ≤ 2147483647)) (hv : (-2147483648 ≤ v ∧ v ≤ 2147483647)) : yC l E jX6_rule (rm 2 48) [.ref (zb E + 0), .int (iI k), .int (iI f), .int (iI v)] n sh I P (kP (.int (iI (if (sRule k f v ∧ rc < 200) then (rc : Int) + 1 else -1))) I P (if (sRule k f v ∧ rc < 200) then mRu M rc k f v (t : Int) else M) t mc (if (sRule k f v ∧ rc < 200) then rc + 1 else rc) pc bc rl) := by
  obtain ⟨hN6, hN7, hN8⟩ := hC.1
  have hb5 := hO.2.1
  refine yC_of (by decide) (Nat.le_of_ble_eq_true rfl) ?_
  refine z_iload_n dX6_rule_0 rfl ?_
  refine z_iload_n dX6_rule_1 rfl ?_
  refine z_iload_n dX6_rule_2 rfl ?_
  refine y_callS dX6_rule_3 kX6_78 (c_X4_mayBe hk hf hv) rfl rfl (Nat.le_of_ble_eq_true rfl) ⟨⟨by decide, by decide⟩, by decide, by decide⟩ (fun v3 n3 sh3 I3 P3 hp3 => ?_)
  obtain ⟨rfl, rfl, rfl, rfl, rfl⟩ := hp3
  refine z_if_eq 19 dX6_rule_6 (by decide) (bI_rng _) (fun c_6 => ?_) (fun c_6 => ?_)
  · have c_6 := bI_0 c_6
    refine z_iconst dX6_rule_19 ?_
    refine y_ireturn dX6_rule_20 rfl ?_
    have hno : ¬ (sRule k f v ∧ rc < 200) := fun h => by first | exact c_6 h.1 | omega
    rw [if_neg hno, if_neg hno, if_neg hno]
    exact kP.same hB hC
  · have c_6 := bI_1 c_6
    refine z_aload_n dX6_rule_9 rfl ?_
    refine y_getR dX6_rule_10 fX6_24 (hB.lt (by decide)) (hB.2.1 0 (by decide)) rfl (hB.2.2.1 2) ?_
    refine y_callV dX6_rule_13 kX6_82 (c_X4_isFull hB hC.2.1.1 (by omega)) (hB.lt (by decide)) (hB.2.1 3 (by decide)) rfl rfl rfl (Nat.le_of_ble_eq_true rfl) ⟨⟨by decide, by decide⟩, by decide, by decide⟩ (fun v13 n13 sh13 I13 P13 hp13 => ?_)
    obtain ⟨rfl, rfl, rfl, rfl, rfl⟩ := hp13
    refine z_if_eq 21 dX6_rule_16 (by decide) (bI_rng _) (fun c_16 => ?_) (fun c_16 => ?_)
    · have c_16 := bI_0 c_16
      have hok : (sRule k f v ∧ rc < 200) := ⟨c_6, by omega⟩
      rw [if_pos hok, if_pos hok, if_pos hok]
      refine z_aload_n dX6_rule_21 rfl ?_
      refine y_getR dX6_rule_22 fX6_24 (hB.lt (by decide)) (hB.2.1 0 (by decide)) rfl (hB.2.2.1 2) ?_
      refine z_iload_n dX6_rule_25 rfl ?_
      refine z_iload_n dX6_rule_26 rfl ?_
      refine z_iload_n dX6_rule_27 rfl ?_
      refine z_aload_n dX6_rule_28 rfl ?_
      refine y_getI dX6_rule_29 fX6_55 (hB.lt (by decide)) (hB.2.1 0 (by decide)) rfl ?_
      refine z_top ((t : Int)) (hN8) ?_
      refine y_callV dX6_rule_32 kX6_86 (c_X4_add (t := (t : Int)) hB hC.2.1.1 (by omega)) (hB.lt (by decide)) (hB.2.1 3 (by decide)) rfl rfl rfl (Nat.le_of_ble_eq_true rfl) ⟨⟨by decide, by decide⟩, by decide, by decide⟩ (fun v32 n32 sh32 I32 P32 hp32 => ?_)
      obtain ⟨rfl, rfl, rfl, rfl, rfl⟩ := hp32
      refine z_iconst dX6_rule_35 ?_
      refine z_istore dX6_rule_36 (by decide) ?_
      refine z_keys [0, 4] ?_
      exact l_X6_rule hB hO hC hok.1 hok.2 0 (by omega)
    · have c_16 := bI_1 c_16
      refine z_iconst dX6_rule_19 ?_
      refine y_ireturn dX6_rule_20 rfl ?_
      have hno : ¬ (sRule k f v ∧ rc < 200) := fun h => by first | exact c_6 h.1 | omega
      rw [if_neg hno, if_neg hno, if_neg hno]
      exact kP.same hB hC
set_option maxHeartbeats 4000000 in
set_option maxRecDepth 100000 in
theorem c_X6_back (hB : yB n sh P) {M : Nat → Nat → Int} {t mc rc pc bc c : Nat} {ma pa : Nat → Nat} {Ls : Nat → List Nat} {r rl : Nat} (hO : mOk M t mc rc pc bc c) (hC : cpl n sh I P M t mc rc pc bc ma pa Ls r rl) {p : Int} (hp : (-2147483648 ≤ p ∧ p ≤ 2147483647)) : yC l E jX6_back (rm 1 21) [.ref (zb E + 0), .int (iI p)] n sh I P (kP (.int (iI (bI ((0 ≤ p ∧ p < (pc : Int)) ∧ M 37 p.toNat = -1)))) I P (if ((0 ≤ p ∧ p < (pc : Int)) ∧ M 37 p.toNat = -1) then zup M 37 p.toNat (t : Int) else M) t mc rc pc bc rl) := by
  obtain ⟨hN6, hN7, hN8⟩ := hC.1
  have hb5 := hO.2.1
  by_cases hp0 : 0 ≤ p ∧ p < (pc : Int)
  · obtain ⟨p0, rfl⟩ : ∃ p0 : Nat, p = p0 := ⟨p.toNat, by omega⟩
    have hp1 : p0 < pc := by omega
    obtain ⟨hx, ⟨hP2, hPl⟩, hPs, hPv⟩ := hC.2.2.2.2.2.2.1 p0 hp1
    simp only [Int.toNat_natCast]
    have hq := hO.2.2.2.1 p0 hp1
    obtain ⟨m0, hm33⟩ : ∃ m0 : Nat, M 33 p0 = (m0 : Int) := ⟨(M 33 p0).toNat, by omega⟩
    have hm1 : m0 < mc := by omega
    obtain ⟨hxm, hMe⟩ := hC.2.2.2.1 m0 hm1
    have hMb := hMe.1
    have h52 := hMb.1
    refine yC_of (by decide) (Nat.le_of_ble_eq_true rfl) ?_
    refine z_aload_n dX6_back_0 rfl ?_
    refine z_iload_n dX6_back_1 rfl ?_
    refine y_callV dX6_back_2 kX6_113 (c_X6_paperAt hB hN7 (by omega) hp1 hx) (hB.lt (by decide)) (hB.2.1 0 (by decide)) rfl rfl rfl (Nat.le_of_ble_eq_true rfl) ⟨⟨by decide, by decide⟩, by decide, by decide⟩ (fun v2 n2 sh2 I2 P2 hp2 => ?_)
    obtain ⟨rfl, rfl, rfl, rfl, rfl⟩ := hp2
    refine z_astore_n dX6_back_5 (by decide) ?_
    refine z_aload_n dX6_back_6 rfl ?_
    refine z_ifnull dX6_back_7 ?_
    refine z_aload_n dX6_back_10 rfl ?_
    refine y_getI dX6_back_11 fX6_117 hPl hPs rfl ?_
    refine z_top (M 37 p0) (hPv.2.2.2.2) ?_
    refine z_iconst dX6_back_14 ?_
    refine z_icmp_eq 20 dX6_back_15 (by decide) (by omega) (by omega) (fun c_15 => ?_) (fun c_15 => ?_)
    · refine z_aload_n dX6_back_20 rfl ?_
      refine z_aload_n dX6_back_21 rfl ?_
      refine y_getI dX6_back_22 fX6_55 (hB.lt (by decide)) (hB.2.1 0 (by decide)) rfl ?_
      refine z_top ((t : Int)) (hN8) ?_
      refine y_putI dX6_back_25 fX6_117 hPl hPs rfl ?_
      refine z_aload_n dX6_back_28 rfl ?_
      refine z_aload_n dX6_back_29 rfl ?_
      refine y_getI dX6_back_30 fX6_120 hPl hPs rfl ?_
      refine z_top ((m0 : Int)) (by rw [show zup I (pa p0) 4 (t : Int) (pa p0) 0 = I (pa p0) 0 by simp [zup], hPv.1]; exact hm33) ?_
      refine y_callV dX6_back_33 kX6_61 (c_X6_memberAt hB (by rw [zup_ne (by omega)]; exact hN6) (by omega) hm1 hxm) (hB.lt (by decide)) (hB.2.1 0 (by decide)) rfl rfl rfl (Nat.le_of_ble_eq_true rfl) ⟨⟨by decide, by decide⟩, by decide, by decide⟩ (fun v33 n33 sh33 I33 P33 hp33 => ?_)
      obtain ⟨rfl, rfl, rfl, rfl, rfl⟩ := hp33
      refine z_astore_n dX6_back_36 (by decide) ?_
      refine z_aload_n dX6_back_37 rfl ?_
      refine z_ifnull dX6_back_38 ?_
      refine z_aload_n dX6_back_41 rfl ?_
      refine z_iconst dX6_back_42 ?_
      refine y_putZ dX6_back_43 fX6_90 hMb.l0 hMb.2.1 rfl (by decide) ?_
      refine z_iconst dX6_back_46 ?_
      refine y_zreturn dX6_back_47 rfl (by decide) ?_
      rw [bI_t ⟨hp0, c_15⟩, if_pos ⟨hp0, c_15⟩]
      exact ⟨rfl, ⟨hB, fun a h1 h2 => by rw [zup_ne (by omega), zup_ne (by omega)], rfl⟩, _, _, _, _, cpl.back hC hO hp1 hm1 hm33⟩
    · refine z_iconst dX6_back_18 ?_
      refine y_zreturn dX6_back_19 rfl (by decide) ?_
      rw [bI_f (fun h => c_15 h.2), if_neg (fun h => c_15 h.2)]
      exact kP.same hB hC
  · refine yC_of (by decide) (Nat.le_of_ble_eq_true rfl) ?_
    refine z_aload_n dX6_back_0 rfl ?_
    refine z_iload_n dX6_back_1 rfl ?_
    refine y_callV dX6_back_2 kX6_113 (c_X6_paperAt_no hB hN7 (by omega) hp hp0) (hB.lt (by decide)) (hB.2.1 0 (by decide)) rfl rfl rfl (Nat.le_of_ble_eq_true rfl) ⟨⟨by decide, by decide⟩, by decide, by decide⟩ (fun v2 n2 sh2 I2 P2 hp2 => ?_)
    obtain ⟨rfl, rfl, rfl, rfl, rfl⟩ := hp2
    refine z_astore_nN dX6_back_5 (by decide) ?_
    refine z_aload_nN dX6_back_6 rfl ?_
    refine z_ifnullN 18 dX6_back_7 (by decide) ?_
    refine z_iconst dX6_back_18 ?_
    refine y_zreturn dX6_back_19 rfl (by decide) ?_
    rw [bI_f (fun h => hp0 h.1), if_neg (fun h => hp0 h.1)]
    exact kP.same hB hC
set_option maxHeartbeats 4000000 in
set_option maxRecDepth 100000 in
theorem c_X6_join (hB : yB n sh P) {M : Nat → Nat → Int} {t mc rc pc bc c : Nat} {ma pa : Nat → Nat} {Ls : Nat → List Nat} {r rl : Nat} (hO : mOk M t mc rc pc bc c) (hC : cpl n sh I P M t mc rc pc bc ma pa Ls r rl) {y d : Int} (hy : (-2147483648 ≤ y ∧ y ≤ 2147483647)) (hd : (-2147483648 ≤ d ∧ d ≤ 2147483647)) : yC l E jX6_join ({ frames := 2, cells := 4, slots := 912, locals := 43 } : Room) [.ref (zb E + 0), .int (iI y), .int (iI d)] n sh I P (kP (.int (iI (if (mc < 40 ∧ (16 ≤ y ∧ y ≤ 60) ∧ (0 ≤ d ∧ d ≤ 3)) then (mc : Int) else -1))) I P (if (mc < 40 ∧ (16 ≤ y ∧ y ≤ 60) ∧ (0 ≤ d ∧ d ≤ 3)) then mJoin M mc y d (t : Int) else M) t (if (mc < 40 ∧ (16 ≤ y ∧ y ≤ 60) ∧ (0 ≤ d ∧ d ≤ 3)) then mc + 1 else mc) rc pc bc rl) := by
  obtain ⟨hN6, hN7, hN8⟩ := hC.1
  have hb5 := hO.2.1
  refine yC_of (by decide) (Nat.le_of_ble_eq_true rfl) ?_
  refine z_iload_n dX6_join_0 rfl ?_
  refine z_bipush dX6_join_1 rfl ?_
  refine z_icmp_lt 21 dX6_join_3 (by decide) (by omega) (by omega) (fun c_3 => ?_) (fun c_3 => ?_)
  · refine z_iconst dX6_join_21 ?_
    refine z_widen (c2 := 4) (s2 := 912) (by decide) (by decide) ?_
    refine y_ireturn dX6_join_22 rfl ?_
    have hno : ¬ (mc < 40 ∧ (16 ≤ y ∧ y ≤ 60) ∧ (0 ≤ d ∧ d ≤ 3)) := by omega
    rw [if_neg hno, if_neg hno, if_neg hno]
    exact kP.same hB hC
  · refine z_iload_n dX6_join_6 rfl ?_
    refine z_bipush dX6_join_7 rfl ?_
    refine z_icmp_gt 21 dX6_join_9 (by decide) (by omega) (by omega) (fun c_9 => ?_) (fun c_9 => ?_)
    · refine z_iconst dX6_join_21 ?_
      refine z_widen (c2 := 4) (s2 := 912) (by decide) (by decide) ?_
      refine y_ireturn dX6_join_22 rfl ?_
      have hno : ¬ (mc < 40 ∧ (16 ≤ y ∧ y ≤ 60) ∧ (0 ≤ d ∧ d ≤ 3)) := by omega
      rw [if_neg hno, if_neg hno, if_neg hno]
      exact kP.same hB hC
    · refine z_iload_n dX6_join_12 rfl ?_
      refine z_if_lt 21 dX6_join_13 (by decide) (by omega) (fun c_13 => ?_) (fun c_13 => ?_)
      · refine z_iconst dX6_join_21 ?_
        refine z_widen (c2 := 4) (s2 := 912) (by decide) (by decide) ?_
        refine y_ireturn dX6_join_22 rfl ?_
        have hno : ¬ (mc < 40 ∧ (16 ≤ y ∧ y ≤ 60) ∧ (0 ≤ d ∧ d ≤ 3)) := by omega
        rw [if_neg hno, if_neg hno, if_neg hno]
        exact kP.same hB hC
      · refine z_iload_n dX6_join_16 rfl ?_
        refine z_iconst dX6_join_17 ?_
        refine z_icmp_lt 23 dX6_join_18 (by decide) (by omega) (by omega) (fun c_18 => ?_) (fun c_18 => ?_)
        · refine z_aload_n dX6_join_23 rfl ?_
          refine y_getI dX6_join_24 fX6_51 (hB.lt (by decide)) (hB.2.1 0 (by decide)) rfl ?_
          refine z_top ((mc : Int)) (hN6) ?_
          refine z_bipush dX6_join_27 rfl ?_
          refine z_icmp_lt 34 dX6_join_29 (by decide) (by omega) (by omega) (fun c_29 => ?_) (fun c_29 => ?_)
          · have hok : (mc < 40 ∧ (16 ≤ y ∧ y ≤ 60) ∧ (0 ≤ d ∧ d ≤ 3)) := by omega
            rw [if_pos hok, if_pos hok, if_pos hok]
            have hn52 := hB.1
            refine z_aload_n dX6_join_34 rfl ?_
            refine y_getR dX6_join_35 fX6_11 (hB.lt (by decide)) (hB.2.1 0 (by decide)) rfl (hB.2.2.1 0) ?_
            refine z_aload_n dX6_join_38 rfl ?_
            refine y_getI dX6_join_39 fX6_51 (hB.lt (by decide)) (hB.2.1 0 (by decide)) rfl ?_
            refine z_top ((mc : Int)) (hN6) ?_
            refine y_new dX6_join_42 cX6_9 rfl (by decide) (by decide) ?_
            have zclr : ∀ x, x < n → zcl I n x = I x := fun x hx => by funext b; simp only [zcl, show ¬ x = n by omega, if_false]
            have zcpr : ∀ x, x < n → zcp P n x = P x := fun x hx => by funext b; simp only [zcp, show ¬ x = n by omega, if_false]
            have zshr : ∀ x, x < n → zsh sh n (0, 2) x = sh x := fun x hx => by simp only [zsh, show ¬ x = n by omega, if_false]
            have hB1 : yB (n + 1) (zsh sh n (0, 2)) (zcp P n) := hB.ext (by omega) (fun x hx => zshr x (by omega)) (fun x b hx _ _ _ _ => by rw [zcpr x (by omega)])
            refine z_dup dX6_join_45 rfl ?_
            refine z_iload_n dX6_join_46 rfl ?_
            refine z_iload_n dX6_join_47 rfl ?_
            refine z_aload_n dX6_join_48 rfl ?_
            refine y_getI dX6_join_49 fX6_55 (hB1.lt (by decide)) (hB1.2.1 0 (by decide)) rfl ?_
            refine z_top ((t : Int)) (by rw [show zcl I n 0 8 = I 0 8 by simp only [zcl, show ¬ 0 = n by omega, if_false]]; exact hN8) ?_
            refine y_callI dX6_join_52 kX6_58 (c_X2_init (a := n) (sh := (zsh sh n (0, 2))) (I := zcl I n) (P := zcp P n) (by simp [zsh])) rfl rfl (Nat.le_of_ble_eq_true rfl) ⟨⟨by decide, by decide⟩, by decide, by decide⟩ (fun v52 n52 sh52 I52 P52 hp52 => ?_)
            obtain ⟨rfl, rfl, q1, q2, q3, q4, q5, q6, q7⟩ := hp52
            have hI0 : I52 0 = I 0 := by rw [(q3 0 (by omega)).1]; exact zclr 0 (by omega)
            refine y_aastore dX6_join_55 (by omega) (by rw [q1 1 (by omega), zshr 1 (by omega)]; exact hB.2.1 1 (by decide)) (by omega) (by rw [q1 n (Nat.le_refl _)]; simp [zsh]; rfl) (by decide) (by omega) (by decide) ?_
            rw [Int.toNat_natCast]
            have hB2 : yB (n + 4) sh52 (zpu P52 1 mc (some n)) := hB.ext (by omega) (fun x hx => by rw [q1 x (by omega)]; exact zshr x (by omega)) (fun x b hx g1 _ _ _ => by rw [zpu_ne g1, (q3 x (by omega)).2, zcpr x (by omega)])
            refine z_aload_n dX6_join_56 rfl ?_
            refine z_dup dX6_join_57 rfl ?_
            refine y_getI dX6_join_58 fX6_51 (hB2.lt (by decide)) (hB2.2.1 0 (by decide)) rfl ?_
            refine z_top ((mc : Int)) (by rw [hI0]; exact hN6) ?_
            refine z_iconst dX6_join_61 ?_
            refine z_iadd dX6_join_62 ?_
            refine y_putI dX6_join_63 fX6_51 (hB2.lt (by decide)) (hB2.2.1 0 (by decide)) rfl ?_
            refine z_aload_n dX6_join_66 rfl ?_
            refine y_getI dX6_join_67 fX6_51 (hB2.lt (by decide)) (hB2.2.1 0 (by decide)) rfl ?_
            refine z_top ((mc : Int) + 1) (by simp [zup]) ?_
            refine z_iconst dX6_join_70 ?_
            refine z_isub dX6_join_71 ?_
            refine z_widen (c2 := 4) (s2 := 912) (by decide) (by decide) ?_
            refine y_ireturn dX6_join_72 rfl ?_
            rw [Int.add_sub_cancel]
            refine ⟨rfl, ⟨hB2, fun a h1 h2 => ?_, ?_⟩, upN ma mc n, pa, upL Ls mc [], r, cpl.join hC hO hB hok.1 (fun x hx => ?_) ⟨?_, q2.1, q2.2.1, q2.2.2⟩ (fun x hx h0 => ?_) (fun b hb => ?_) ?_ ⟨?_, ?_, ?_, ?_, ?_⟩ (fun b => ?_) (fun x b hx hn => ?_) ?_ ⟨?_, ?_, ?_, ?_⟩⟩
            · rw [zup_ne (by omega), (q3 a (by omega)).1]; exact zclr a (by omega)
            · rw [zpu_ne (by omega), (q3 24 (by omega)).2]; exact zcpr 24 (by omega)
            · rw [q1 x (by omega)]; exact zshr x (by omega)
            · rw [q1 n (Nat.le_refl _)]; simp [zsh]
            · rw [zup_ne h0, (q3 x hx).1]; exact zclr x hx
            · rw [zup_eq]; simp only [zu, hb, if_false]; rw [hI0]
            · simp [zup]
            · rw [zup_ne (by omega)]; exact q4.1
            · rw [zup_ne (by omega)]; exact q4.2.1
            · rw [zup_ne (by omega)]; exact q4.2.2.1
            · rw [zup_ne (by omega), q4.2.2.2 6 (by omega)]; simp [zcl]
            · rw [zup_ne (by omega), q4.2.2.2 7 (by omega)]; simp [zcl]
            · rw [zup_ne (by omega), zup_ne (by omega)]; exact ⟨(q5 b).1, (q5 b).2.1⟩
            · rw [show zpu P52 1 mc (some n) x b = P52 x b by simp only [zpu, hn, if_false], (q3 x hx).2, zcpr x hx]
            · simp [zpu]
            · rw [zpu_ne (by omega)]; exact q6.1
            · rw [zpu_ne (by omega)]; exact q6.2.1
            · rw [zpu_ne (by omega)]; exact q6.2.2
            · rw [zpu_ne (by omega), q7 8 (by omega)]; simp [zcp]
          · refine z_iconst dX6_join_32 ?_
            refine z_widen (c2 := 4) (s2 := 912) (by decide) (by decide) ?_
            refine y_ireturn dX6_join_33 rfl ?_
            have hno : ¬ (mc < 40 ∧ (16 ≤ y ∧ y ≤ 60) ∧ (0 ≤ d ∧ d ≤ 3)) := by omega
            rw [if_neg hno, if_neg hno, if_neg hno]
            exact kP.same hB hC
        · refine z_iconst dX6_join_21 ?_
          refine z_widen (c2 := 4) (s2 := 912) (by decide) (by decide) ?_
          refine y_ireturn dX6_join_22 rfl ?_
          have hno : ¬ (mc < 40 ∧ (16 ≤ y ∧ y ≤ 60) ∧ (0 ≤ d ∧ d ≤ 3)) := by omega
          rw [if_neg hno, if_neg hno, if_neg hno]
          exact kP.same hB hC
set_option maxHeartbeats 4000000 in
set_option maxRecDepth 100000 in
theorem c_X6_paper (hB : yB n sh P) {M : Nat → Nat → Int} {t mc rc pc bc c : Nat} {ma pa : Nat → Nat} {Ls : Nat → List Nat} {r rl : Nat} (hO : mOk M t mc rc pc bc c) (hC : cpl n sh I P M t mc rc pc bc ma pa Ls r rl) {m f a : Int} (hm : (-2147483648 ≤ m ∧ m ≤ 2147483647)) (hf : (-2147483648 ≤ f ∧ f ≤ 2147483647)) (ha : (-2147483648 ≤ a ∧ a ≤ 2147483647)) : yC l E jX6_paper ({ frames := 2, cells := 1, slots := 6, locals := 44 } : Room) [.ref (zb E + 0), .int (iI m), .int (iI f), .int (iI a)] n sh I P (kP (.int (iI (if ((0 ≤ m ∧ m < (mc : Int)) ∧ f ≤ a ∧ 7 * M 27 m.toNat ≤ f ∧ a ≤ 7 * (t : Int) + 6 ∧ a - f < 400 ∧ pc < 200) then (pc : Int) else -1))) I P (if ((0 ≤ m ∧ m < (mc : Int)) ∧ f ≤ a ∧ 7 * M 27 m.toNat ≤ f ∧ a ≤ 7 * (t : Int) + 6 ∧ a - f < 400 ∧ pc < 200) then mPa M pc m f a (t : Int) else M) t mc rc (if ((0 ≤ m ∧ m < (mc : Int)) ∧ f ≤ a ∧ 7 * M 27 m.toNat ≤ f ∧ a ≤ 7 * (t : Int) + 6 ∧ a - f < 400 ∧ pc < 200) then pc + 1 else pc) bc rl) := by
  obtain ⟨hN6, hN7, hN8⟩ := hC.1
  have hb5 := hO.2.1
  by_cases hm0 : 0 ≤ m ∧ m < (mc : Int)
  · obtain ⟨m0, rfl⟩ : ∃ m0 : Nat, m = m0 := ⟨m.toNat, by omega⟩
    have hm1 : m0 < mc := by omega
    obtain ⟨hx, hMe⟩ := hC.2.2.2.1 m0 hm1
    have hMb := hMe.1
    simp only [Int.toNat_natCast]
    have hj := hO.jo m0 hm1
    refine yC_of (by decide) (Nat.le_of_ble_eq_true rfl) ?_
    refine z_aload_n dX6_paper_0 rfl ?_
    refine z_iload_n dX6_paper_1 rfl ?_
    refine y_callV dX6_paper_2 kX6_61 (c_X6_memberAt hB hN6 (by omega) hm1 hx) (hB.lt (by decide)) (hB.2.1 0 (by decide)) rfl rfl rfl (Nat.le_of_ble_eq_true rfl) ⟨⟨by decide, by decide⟩, by decide, by decide⟩ (fun v2 n2 sh2 I2 P2 hp2 => ?_)
    obtain ⟨rfl, rfl, rfl, rfl, rfl⟩ := hp2
    refine z_astore dX6_paper_5 (by decide) ?_
    refine z_aload dX6_paper_7 rfl ?_
    refine z_ifnull dX6_paper_9 ?_
    refine z_aload_n dX6_paper_12 rfl ?_
    refine y_getI dX6_paper_13 fX6_97 (hB.lt (by decide)) (hB.2.1 0 (by decide)) rfl ?_
    refine z_top ((pc : Int)) (hN7) ?_
    refine z_sipush dX6_paper_16 rfl ?_
    refine z_icmp_lt 24 dX6_paper_19 (by decide) (by omega) (by omega) (fun c_19 => ?_) (fun c_19 => ?_)
    · refine z_iload_n dX6_paper_24 rfl ?_
      refine z_bipush dX6_paper_25 rfl ?_
      refine z_aload dX6_paper_27 rfl ?_
      refine y_getI dX6_paper_29 fX6_100 hMb.l0 hMb.2.1 rfl ?_
      refine z_top (M 27 m0) (hMe.2.1.2.2) ?_
      refine z_imul dX6_paper_32 ?_
      refine z_icmp_lt 52 dX6_paper_33 (by decide) (by omega) (by omega) (fun c_33 => ?_) (fun c_33 => ?_)
      · refine z_iconst dX6_paper_52 ?_
        refine z_widen (c2 := 1) (s2 := 6) (by decide) (by decide) ?_
        refine y_ireturn dX6_paper_53 rfl ?_
        have hno : ¬ ((0 ≤ (m0 : Int) ∧ (m0 : Int) < (mc : Int)) ∧ f ≤ a ∧ 7 * M 27 m0 ≤ f ∧ a ≤ 7 * (t : Int) + 6 ∧ a - f < 400 ∧ pc < 200) := by omega
        rw [if_neg hno, if_neg hno, if_neg hno]
        exact kP.same hB hC
      · refine z_iload_n dX6_paper_36 rfl ?_
        refine z_iload_n dX6_paper_37 rfl ?_
        refine z_icmp_lt 52 dX6_paper_38 (by decide) (by omega) (by omega) (fun c_38 => ?_) (fun c_38 => ?_)
        · refine z_iconst dX6_paper_52 ?_
          refine z_widen (c2 := 1) (s2 := 6) (by decide) (by decide) ?_
          refine y_ireturn dX6_paper_53 rfl ?_
          have hno : ¬ ((0 ≤ (m0 : Int) ∧ (m0 : Int) < (mc : Int)) ∧ f ≤ a ∧ 7 * M 27 m0 ≤ f ∧ a ≤ 7 * (t : Int) + 6 ∧ a - f < 400 ∧ pc < 200) := by omega
          rw [if_neg hno, if_neg hno, if_neg hno]
          exact kP.same hB hC
        · refine z_iload_n dX6_paper_41 rfl ?_
          refine z_aload_n dX6_paper_42 rfl ?_
          refine y_getI dX6_paper_43 fX6_55 (hB.lt (by decide)) (hB.2.1 0 (by decide)) rfl ?_
          refine z_top ((t : Int)) (hN8) ?_
          refine y_callS dX6_paper_46 kX6_103 (c_X6_lastDayOf (w := (t : Int))) rfl rfl (Nat.le_of_ble_eq_true rfl) ⟨⟨by decide, by decide⟩, by decide, by decide⟩ (fun v46 n46 sh46 I46 P46 hp46 => ?_)
          obtain ⟨rfl, rfl, rfl, rfl, rfl⟩ := hp46
          refine z_icmp_le 54 dX6_paper_49 (by decide) (by omega) (by omega) (fun c_49 => ?_) (fun c_49 => ?_)
          · refine z_iload_n dX6_paper_54 rfl ?_
            refine z_iload_n dX6_paper_55 rfl ?_
            refine z_isub dX6_paper_56 ?_
            refine z_iconst dX6_paper_57 ?_
            refine z_iadd dX6_paper_58 ?_
            refine z_sipush dX6_paper_59 rfl ?_
            refine z_icmp_le 67 dX6_paper_62 (by decide) (by omega) (by omega) (fun c_62 => ?_) (fun c_62 => ?_)
            · have hok : ((0 ≤ (m0 : Int) ∧ (m0 : Int) < (mc : Int)) ∧ f ≤ a ∧ 7 * M 27 m0 ≤ f ∧ a ≤ 7 * (t : Int) + 6 ∧ a - f < 400 ∧ pc < 200) := by omega
              rw [if_pos hok, if_pos hok, if_pos hok]
              have hn52 := hB.1
              have h52 := hMb.1
              refine y_new dX6_paper_67 cX6_15 rfl (by decide) (by decide) ?_
              have zclr : ∀ x, x < n → zcl I n x = I x := fun x hx => by funext b; simp only [zcl, show ¬ x = n by omega, if_false]
              have zcpr : ∀ x, x < n → zcp P n x = P x := fun x hx => by funext b; simp only [zcp, show ¬ x = n by omega, if_false]
              have zshr : ∀ x, x < n → zsh sh n (0, 3) x = sh x := fun x hx => by simp only [zsh, show ¬ x = n by omega, if_false]
              have hB1 : yB (n + 1) (zsh sh n (0, 3)) (zcp P n) := hB.ext (by omega) (fun x hx => zshr x (by omega)) (fun x b hx _ _ _ _ => by rw [zcpr x (by omega)])
              refine z_dup dX6_paper_70 rfl ?_
              refine z_iload_n dX6_paper_71 rfl ?_
              refine z_iload_n dX6_paper_72 rfl ?_
              refine z_iload_n dX6_paper_73 rfl ?_
              refine z_aload_n dX6_paper_74 rfl ?_
              refine y_getI dX6_paper_75 fX6_55 (hB1.lt (by decide)) (hB1.2.1 0 (by decide)) rfl ?_
              refine z_top ((t : Int)) (by rw [zclr 0 (by omega)]; exact hN8) ?_
              refine y_callI dX6_paper_78 kX6_107 (c_X3_init (p := n) (m := (m0 : Int)) (f := f) (d := a) (t := (t : Int)) (by omega) (by simp [zsh])) rfl rfl (Nat.le_of_ble_eq_true rfl) ⟨⟨by decide, by decide⟩, by decide, by decide⟩ (fun v78 n78 sh78 I78 P78 hp78 => ?_)
              obtain ⟨rfl, rfl, rfl, rfl, rfl⟩ := hp78
              have hJ : ∀ x, x < n → (zup (zup (zup (zup (zup (zcl I n) n 4 (-1)) n 0 (m0 : Int)) n 1 f) n 2 a) n 3 (t : Int)) x = I x := fun x hx => by rw [zup_ne (by omega), zup_ne (by omega), zup_ne (by omega), zup_ne (by omega), zup_ne (by omega)]; exact zclr x hx
              have hJn : (zup (zup (zup (zup (zup (zcl I n) n 4 (-1)) n 0 (m0 : Int)) n 1 f) n 2 a) n 3 (t : Int)) n 0 = (m0 : Int) ∧ (zup (zup (zup (zup (zup (zcl I n) n 4 (-1)) n 0 (m0 : Int)) n 1 f) n 2 a) n 3 (t : Int)) n 1 = f ∧ (zup (zup (zup (zup (zup (zcl I n) n 4 (-1)) n 0 (m0 : Int)) n 1 f) n 2 a) n 3 (t : Int)) n 2 = a ∧ (zup (zup (zup (zup (zup (zcl I n) n 4 (-1)) n 0 (m0 : Int)) n 1 f) n 2 a) n 3 (t : Int)) n 3 = (t : Int) ∧ (zup (zup (zup (zup (zup (zcl I n) n 4 (-1)) n 0 (m0 : Int)) n 1 f) n 2 a) n 3 (t : Int)) n 4 = -1 := by simp [zup]
              generalize (zup (zup (zup (zup (zup (zcl I n) n 4 (-1)) n 0 (m0 : Int)) n 1 f) n 2 a) n 3 (t : Int)) = J at hJ hJn ⊢
              refine z_astore dX6_paper_81 (by decide) ?_
              refine z_aload_n dX6_paper_83 rfl ?_
              refine y_getR dX6_paper_84 fX6_17 (hB1.lt (by decide)) (hB1.2.1 0 (by decide)) rfl (hB1.2.2.1 1) ?_
              refine z_aload_n dX6_paper_87 rfl ?_
              refine y_getI dX6_paper_88 fX6_97 (hB1.lt (by decide)) (hB1.2.1 0 (by decide)) rfl ?_
              refine z_top ((pc : Int)) (by rw [hJ 0 (by omega)]; exact hN7) ?_
              refine z_aload dX6_paper_91 rfl ?_
              refine y_aastore dX6_paper_93 (by omega) (by rw [zshr 2 (by omega)]; exact hB.2.1 2 (by decide)) (by omega) (show zsh sh n (0, 3) n = (0, 3) by simp [zsh]) (by decide) (by omega) (by decide) ?_
              rw [Int.toNat_natCast]
              have hB2 : yB (n + 1) (zsh sh n (0, 3)) (zpu (zcp P n) 2 pc (some n)) := hB.ext (by omega) (fun x hx => zshr x (by omega)) (fun x b hx _ g2 _ _ => by rw [zpu_ne g2, zcpr x (by omega)])
              refine z_aload_n dX6_paper_94 rfl ?_
              refine z_dup dX6_paper_95 rfl ?_
              refine y_getI dX6_paper_96 fX6_97 (hB2.lt (by decide)) (hB2.2.1 0 (by decide)) rfl ?_
              refine z_top ((pc : Int)) (by rw [hJ 0 (by omega)]; exact hN7) ?_
              refine z_iconst dX6_paper_99 ?_
              refine z_iadd dX6_paper_100 ?_
              refine y_putI dX6_paper_101 fX6_97 (hB2.lt (by decide)) (hB2.2.1 0 (by decide)) rfl ?_
              have hpp := cpl.pp hO hC hm1
              have tpc : chn (zpu (zcp P n) 2 pc (some n)) ((zpu (zcp P n) 2 pc (some n)) (ma m0) 8) (Ls m0) := by rw [zpu_ne (by omega), zcpr _ (by omega)]; exact chn_ext (fun x hx => by have := (hpp x hx).1; rw [zpu_ne (by omega), zcpr x (by omega)]) hMe.2.2.2.2.2.2.1
              have tps : srt (zup J 0 7 ((pc : Int) + 1)) (Ls m0) := srt_ext (fun x hx => by have := (hpp x hx).1; rw [zup_ne (by omega), hJ x (by omega)]) hMe.2.2.2.2.2.2.2.1
              have tp3 : ∀ y, y ∈ Ls m0 → yPp (n + 1) (zsh sh n (0, 3)) (zup J 0 7 ((pc : Int) + 1)) y := fun y hy => by
                have h9 := hpp y hy
                have h9b := h9.1
                unfold yPp at h9 ⊢
                rw [zup_ne (by omega), hJ y (by omega), zshr y (by omega)]
                exact ⟨by omega, h9.2⟩
              refine z_aload dX6_paper_104 rfl ?_
              refine z_aload dX6_paper_106 rfl ?_
              refine y_callV dX6_paper_108 kX6_109 (c_X2_take (a := ma m0) (x := n) (La := Ls m0) (n := n + 1) (sh := zsh sh n (0, 3)) (I := (zup J 0 7 ((pc : Int) + 1))) (P := (zpu (zcp P n) 2 pc (some n))) (by omega) (by rw [zshr _ (by omega)]; exact hMb.2.1) (by omega) (by simp [zsh]) (fun y hy => tp3 y hy) (by rw [zup_ne (by omega), hJn.2.1]; omega) (by omega) (fun z => by have := (hpp n z).1; omega) (fun z => by have := (hpp _ z).2.1; rw [hMb.2.1] at this; cases this) tpc tps hMe.2.2.2.2.2.2.2.2) (by omega) (by rw [zshr _ (by omega)]; exact hMb.2.1) rfl rfl rfl (Nat.le_of_ble_eq_true rfl) ⟨⟨by decide, by decide⟩, by decide, by decide⟩ (fun v108 n108 sh108 I108 P108 hp108 => ?_)
              obtain ⟨rfl, rfl, rfl, rfl, ⟨L2, t1, t2, t3, t4⟩, t5⟩ := hp108
              have hlo : ∀ x b, x < 52 → P108 x b = zpu (zcp P n) 2 pc (some n) x b := fun x b hx => t5 x b (by omega) (fun z => by exact z.2.elim (fun h => by omega) (fun h => by have := (hpp x h).1; omega))
              have hB3 : yB (n + 1) (zsh sh n (0, 3)) P108 := hB2.ext (Nat.le_refl _) (fun _ _ => rfl) (fun x b hx _ _ _ _ => hlo x b (by omega))
              refine z_aload dX6_paper_111 rfl ?_
              refine z_iconst dX6_paper_113 ?_
              refine y_putZ dX6_paper_114 fX6_90 (by omega) (by rw [zshr _ (by omega)]; exact hMb.2.1) rfl (by decide) ?_
              refine z_aload_n dX6_paper_117 rfl ?_
              refine y_getI dX6_paper_118 fX6_97 (hB3.lt (by decide)) (hB3.2.1 0 (by decide)) rfl ?_
              refine z_top ((pc : Int) + 1) (by rw [zup_ne (by omega)]; simp [zup]) ?_
              refine z_iconst dX6_paper_121 ?_
              refine z_isub dX6_paper_122 ?_
              refine y_ireturn dX6_paper_123 rfl ?_
              rw [Int.add_sub_cancel]
              refine ⟨rfl, ⟨hB3, fun x h1 h2 => ?_, ?_⟩, ma, upN pa pc n, upL Ls m0 L2, r, cpl.paper (L' := L2) hC hO hB hm1 hok.2.2.2.2.2 zshr (by simp [zsh]) (fun x hx g1 g2 => ?_) (fun b hb => ?_) ?_ (fun b hb => ?_) ?_ ?_ (fun x b hx g1 g2 g3 => ?_) ?_ ⟨t1, ?_, t3, t4⟩⟩
              · rw [zup_ne (by omega), zup_ne (by omega)]; exact hJ x (by omega)
              · funext b; rw [hlo 24 b (by omega), zpu_ne (by omega), zcpr 24 (by omega)]
              · rw [zup_ne g2, zup_ne g1]; exact hJ x hx
              · rw [zup_ne (by omega), zup_eq]; simp only [zu, hb, if_false]; rw [hJ 0 (by omega)]
              · rw [zup_ne (by omega)]; simp [zup]
              · rw [zup_eq]; simp only [zu, hb, if_false]; rw [zup_ne (by omega), hJ _ (by omega)]
              · simp [zup]
              · rw [zup_ne (by omega), zup_ne (by omega)]; exact hJn
              · rw [t5 x b g2 (fun z => z.2.elim (fun h => by omega) (fun h => g3 ⟨z.1, h⟩)), show zpu (zcp P n) 2 pc (some n) x b = zcp P n x b by simp only [zpu, g1, if_false], zcpr x hx]
              · rw [hlo 2 pc (by omega)]; simp [zpu]
              · exact srt_ext (fun x hx => by have h9 : x = n ∨ x ∈ Ls m0 := (t4 x).mp hx; rw [zup_ne (fun z => h9.elim (fun h => by omega) (fun h => by have := (hpp x h).2.1; rw [z, hMb.2.1] at this; cases this))]) t2
            · refine z_iconst dX6_paper_65 ?_
              refine z_widen (c2 := 1) (s2 := 6) (by decide) (by decide) ?_
              refine y_ireturn dX6_paper_66 rfl ?_
              have hno : ¬ ((0 ≤ (m0 : Int) ∧ (m0 : Int) < (mc : Int)) ∧ f ≤ a ∧ 7 * M 27 m0 ≤ f ∧ a ≤ 7 * (t : Int) + 6 ∧ a - f < 400 ∧ pc < 200) := by omega
              rw [if_neg hno, if_neg hno, if_neg hno]
              exact kP.same hB hC
          · refine z_iconst dX6_paper_52 ?_
            refine z_widen (c2 := 1) (s2 := 6) (by decide) (by decide) ?_
            refine y_ireturn dX6_paper_53 rfl ?_
            have hno : ¬ ((0 ≤ (m0 : Int) ∧ (m0 : Int) < (mc : Int)) ∧ f ≤ a ∧ 7 * M 27 m0 ≤ f ∧ a ≤ 7 * (t : Int) + 6 ∧ a - f < 400 ∧ pc < 200) := by omega
            rw [if_neg hno, if_neg hno, if_neg hno]
            exact kP.same hB hC
    · refine z_iconst dX6_paper_22 ?_
      refine z_widen (c2 := 1) (s2 := 6) (by decide) (by decide) ?_
      refine y_ireturn dX6_paper_23 rfl ?_
      have hno : ¬ ((0 ≤ (m0 : Int) ∧ (m0 : Int) < (mc : Int)) ∧ f ≤ a ∧ 7 * M 27 m0 ≤ f ∧ a ≤ 7 * (t : Int) + 6 ∧ a - f < 400 ∧ pc < 200) := by omega
      rw [if_neg hno, if_neg hno, if_neg hno]
      exact kP.same hB hC
  · refine yC_of (by decide) (Nat.le_of_ble_eq_true rfl) ?_
    refine z_aload_n dX6_paper_0 rfl ?_
    refine z_iload_n dX6_paper_1 rfl ?_
    refine y_callV dX6_paper_2 kX6_61 (c_X6_memberAt_no hB hN6 (by omega) hm hm0) (hB.lt (by decide)) (hB.2.1 0 (by decide)) rfl rfl rfl (Nat.le_of_ble_eq_true rfl) ⟨⟨by decide, by decide⟩, by decide, by decide⟩ (fun v2 n2 sh2 I2 P2 hp2 => ?_)
    obtain ⟨rfl, rfl, rfl, rfl, rfl⟩ := hp2
    refine z_astoreN dX6_paper_5 (by decide) ?_
    refine z_aloadN dX6_paper_7 rfl ?_
    refine z_ifnullN 22 dX6_paper_9 (by decide) ?_
    refine z_iconst dX6_paper_22 ?_
    refine z_widen (c2 := 1) (s2 := 6) (by decide) (by decide) ?_
    refine y_ireturn dX6_paper_23 rfl ?_
    rw [if_neg (fun h => hm0 h.1), if_neg (fun h => hm0 h.1), if_neg (fun h => hm0 h.1)]
    exact kP.same hB hC
end BMu
