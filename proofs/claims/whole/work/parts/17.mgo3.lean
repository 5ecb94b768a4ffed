section MG3
variable {l : Launch} {E : zEnv} {n : Nat} {sh : Nat → Nat × Nat} {I : Nat → Nat → Int} {P : Nat → Nat → Option Nat}
set_option maxHeartbeats 4000000 in
set_option maxRecDepth 100000 in
theorem l2b_X7_go (hM : yM n sh P) {m t q j pc : Nat} (hm : m < 40) (ht : I 24 0 = (t : Int)) (ht3 : t ≤ 300) (hq : I 24 26 = (q : Int)) (hq3 : q ≤ 300) (hpc : I 24 3 = (pc : Int)) (hpc2 : pc ≤ 200) (hj : I 27 m = (j : Int)) (hj3 : j ≤ 300) (hpap : mPap I pc t) (hV : ∀ k w, k < 7 → w ≤ t → 0 ≤ mV I k w ∧ mV I k w ≤ 400) (hO : ∀ w, w ≤ t → -2147483648 ≤ sOw I m w q j ∧ sOw I m w q j ≤ 2147483647) {p : Nat} (hp : p < pc) (hout : ∀ I', gB I I' m q t (p + 1) → Z l E jX7_go (rm 3 68) (yE E 0 0 (yS none n sh P (fun I' => mGo I I' m q j pc t))) 0 0 (zw E n sh I' P) 50 [(0, .ref (zb E + 24)), (1, .int (iI m)), (2, .int (iI (7 * (t : Int) + 7))), (3, .int (iI (bI (ANm I m q (p + 1) = true)))), (4, .int (iI ((p : Int) + 1)))] []) : ∀ d : Nat, ∀ I', gC I I' m q t p d → (I 34 p ≤ (d : Int) ∧ (d : Int) ≤ I 35 p + 1) → Z l E jX7_go (rm 3 68) (yE E 0 0 (yS none n sh P (fun I' => mGo I I' m q j pc t))) 0 0 (zw E n sh I' P) 114 [(0, .ref (zb E + 24)), (1, .int (iI m)), (2, .int (iI (7 * (t : Int) + 7))), (3, .int (iI (bI (ANm I m q p = true ∨ (ACm I m q p ∧ I 34 p < (d : Int)))))), (4, .int (iI p)), (5, .int (iI (bI (I 36 p ≤ (q : Int) ∧ (I 37 p = -1 ∨ (q : Int) < I 37 p))))), (6, .int (iI d))] [] := by
  have hpp := hpap p hp
  refine zloop (fun d : Nat => 7 * t + 8 - d) (fun d ih I' hC hd0 => ?_)
  refine z_aload_n dX7_go_114 rfl ?_
  refine y_getR dX7_go_115 fX7_34 (hM.lt (by decide)) (hM.2.1 24 (by decide)) rfl (hM.2.2 13) ?_
  refine z_iload dX7_go_118 rfl ?_
  refine y_ialoadJ (p) dX7_go_120 (hM.lt (by decide)) (hM.2.1 33 (by decide)) (by omega) (by decide) ?_
  rw [hC.1 33 p (by omega)]
  refine z_iload_n dX7_go_121 rfl ?_
  refine z_icmp_ne 158 dX7_go_122 (by decide) (by omega) (by omega) (fun c_122 => ?_) (fun c_122 => ?_)
  · refine z_iinc dX7_go_158 rfl (by decide) ?_
    refine z_goto 50 dX7_go_161 (by decide) ?_
    refine z_keys [0, 1, 2, 3, 4] ?_
    have h5 := hout I' ⟨hC.1, fun d' hd' => ⟨(hC.2 d' hd').1, (hC.2 d' hd').2.1, ?_⟩⟩
    · rw [bI_cong (show ANm I m q (p + 1) = true ↔ (ANm I m q p = true ∨ (ACm I m q p ∧ I 34 p < (d : Int))) from ?_)] at h5
      · exact h5
      · rw [ANm_succ]
        first
          | exact or_congr Iff.rfl ⟨fun h => absurd h.1 c_122, fun h => h.1⟩
          | exact or_congr Iff.rfl ⟨fun h => absurd h.2 (bI_0 c_127), fun h => h.1⟩
          | exact or_congr Iff.rfl ⟨fun h => ⟨h, by omega⟩, fun h => h.1⟩
    · rw [(hC.2 d' hd').2.2]
      refine bI_cong ?_
      rw [SKm_succ]
      first
        | exact or_congr Iff.rfl ⟨fun h => absurd h.1.1 c_122, fun h => absurd h.1.1 c_122⟩
        | exact or_congr Iff.rfl ⟨fun h => absurd h.1.2 (bI_0 c_127), fun h => absurd h.1.2 (bI_0 c_127)⟩
        | exact or_congr Iff.rfl ⟨fun h => ⟨h.1, h.2.1, by omega⟩, fun h => ⟨h.1, h.2.1, by omega⟩⟩
  · refine z_iload dX7_go_125 rfl ?_
    refine z_if_eq 158 dX7_go_127 (by decide) (bI_rng _) (fun c_127 => ?_) (fun c_127 => ?_)
    · refine z_iinc dX7_go_158 rfl (by decide) ?_
      refine z_goto 50 dX7_go_161 (by decide) ?_
      refine z_keys [0, 1, 2, 3, 4] ?_
      have h5 := hout I' ⟨hC.1, fun d' hd' => ⟨(hC.2 d' hd').1, (hC.2 d' hd').2.1, ?_⟩⟩
      · rw [bI_cong (show ANm I m q (p + 1) = true ↔ (ANm I m q p = true ∨ (ACm I m q p ∧ I 34 p < (d : Int))) from ?_)] at h5
        · exact h5
        · rw [ANm_succ]
          first
            | exact or_congr Iff.rfl ⟨fun h => absurd h.1 c_122, fun h => h.1⟩
            | exact or_congr Iff.rfl ⟨fun h => absurd h.2 (bI_0 c_127), fun h => h.1⟩
            | exact or_congr Iff.rfl ⟨fun h => ⟨h, by omega⟩, fun h => h.1⟩
      · rw [(hC.2 d' hd').2.2]
        refine bI_cong ?_
        rw [SKm_succ]
        first
          | exact or_congr Iff.rfl ⟨fun h => absurd h.1.1 c_122, fun h => absurd h.1.1 c_122⟩
          | exact or_congr Iff.rfl ⟨fun h => absurd h.1.2 (bI_0 c_127), fun h => absurd h.1.2 (bI_0 c_127)⟩
          | exact or_congr Iff.rfl ⟨fun h => ⟨h.1, h.2.1, by omega⟩, fun h => ⟨h.1, h.2.1, by omega⟩⟩
    · refine z_iload dX7_go_130 rfl ?_
      refine z_aload_n dX7_go_132 rfl ?_
      refine y_getR dX7_go_133 fX7_40 (hM.lt (by decide)) (hM.2.1 24 (by decide)) rfl (hM.2.2 15) ?_
      refine z_iload dX7_go_136 rfl ?_
      refine y_ialoadJ (p) dX7_go_138 (hM.lt (by decide)) (hM.2.1 35 (by decide)) (by omega) (by decide) ?_
      rw [hC.1 35 p (by omega)]
      refine z_icmp_gt 158 dX7_go_139 (by decide) (by omega) (by omega) (fun c_139 => ?_) (fun c_139 => ?_)
      · refine z_iinc dX7_go_158 rfl (by decide) ?_
        refine z_goto 50 dX7_go_161 (by decide) ?_
        refine z_keys [0, 1, 2, 3, 4] ?_
        have h5 := hout I' ⟨hC.1, fun d' hd' => ⟨(hC.2 d' hd').1, (hC.2 d' hd').2.1, ?_⟩⟩
        · rw [bI_cong (show ANm I m q (p + 1) = true ↔ (ANm I m q p = true ∨ (ACm I m q p ∧ I 34 p < (d : Int))) from ?_)] at h5
          · exact h5
          · rw [ANm_succ]
            first
              | exact or_congr Iff.rfl ⟨fun h => absurd h.1 c_122, fun h => h.1⟩
              | exact or_congr Iff.rfl ⟨fun h => absurd h.2 (bI_0 c_127), fun h => h.1⟩
              | exact or_congr Iff.rfl ⟨fun h => ⟨h, by omega⟩, fun h => h.1⟩
        · rw [(hC.2 d' hd').2.2]
          refine bI_cong ?_
          rw [SKm_succ]
          first
            | exact or_congr Iff.rfl ⟨fun h => absurd h.1.1 c_122, fun h => absurd h.1.1 c_122⟩
            | exact or_congr Iff.rfl ⟨fun h => absurd h.1.2 (bI_0 c_127), fun h => absurd h.1.2 (bI_0 c_127)⟩
            | exact or_congr Iff.rfl ⟨fun h => ⟨h.1, h.2.1, by omega⟩, fun h => ⟨h.1, h.2.1, by omega⟩⟩
      · refine z_aload_n dX7_go_142 rfl ?_
        refine y_getR dX7_go_143 fX7_79 (hM.lt (by decide)) (hM.2.1 24 (by decide)) rfl (hM.2.2 29) ?_
        refine z_iload dX7_go_146 rfl ?_
        refine z_iconst dX7_go_148 ?_
        refine y_bastoreJ (d) dX7_go_149 (hM.lt (by decide)) (hM.2.1 48 (by decide)) (by omega) (by decide) (by decide) ?_
        refine z_iconst dX7_go_150 ?_
        refine z_istore_n dX7_go_151 (by decide) ?_
        have hac : ACm I m q p := ⟨c_122, bI_1 c_127⟩
        refine z_iinc dX7_go_152 rfl (by decide) ?_
        refine z_goto 114 dX7_go_155 (by decide) ?_
        refine z_keys [0, 1, 2, 3, 4, 5, 6] ?_
        have h5 := ih (d + 1) (by omega) (zup I' 48 d 1) ⟨hC.1.up (by omega), fun d' hd' => ⟨?_, ?_, ?_⟩⟩ ⟨by omega, by omega⟩
        · rw [bI_t (Or.inr ⟨hac, by omega⟩)] at h5
          exact h5
        · rw [zup_ne (by omega)]; exact (hC.2 d' hd').1
        · rw [zup_ne (by omega)]; exact (hC.2 d' hd').2.1
        · rw [zup_eq]
          by_cases e : d' = d
          · subst e
            simp only [zu, if_true]
            rw [bI_t (Or.inr ⟨hac, by omega, by omega⟩)]
          · simp only [zu, if_neg e]
            rw [(hC.2 d' hd').2.2]
            exact bI_cong (or_congr Iff.rfl ⟨fun h => ⟨h.1, h.2.1, by omega⟩, fun h => ⟨h.1, h.2.1, by omega⟩⟩)
set_option maxHeartbeats 4000000 in
set_option maxRecDepth 100000 in
theorem l2_X7_go (hM : yM n sh P) {m t q j pc : Nat} (hm : m < 40) (ht : I 24 0 = (t : Int)) (ht3 : t ≤ 300) (hq : I 24 26 = (q : Int)) (hq3 : q ≤ 300) (hpc : I 24 3 = (pc : Int)) (hpc2 : pc ≤ 200) (hj : I 27 m = (j : Int)) (hj3 : j ≤ 300) (hpap : mPap I pc t) (hV : ∀ k w, k < 7 → w ≤ t → 0 ≤ mV I k w ∧ mV I k w ≤ 400) (hO : ∀ w, w ≤ t → -2147483648 ≤ sOw I m w q j ∧ sOw I m w q j ≤ 2147483647) : ∀ p : Nat, ∀ I', gB I I' m q t p → p ≤ pc → Z l E jX7_go (rm 3 68) (yE E 0 0 (yS none n sh P (fun I' => mGo I I' m q j pc t))) 0 0 (zw E n sh I' P) 50 [(0, .ref (zb E + 24)), (1, .int (iI m)), (2, .int (iI (7 * (t : Int) + 7))), (3, .int (iI (bI (ANm I m q p = true)))), (4, .int (iI p))] [] := by
  refine zloop (fun p : Nat => pc - p) (fun p ih I' hB hp0 => ?_)
  refine z_iload dX7_go_50 rfl ?_
  refine z_aload_n dX7_go_52 rfl ?_
  refine y_getI dX7_go_53 fX7_121 (hM.lt (by decide)) (hM.2.1 24 (by decide)) rfl ?_
  rw [hB.1 24 3 (by omega), hpc]
  refine z_icmp_ge 164 dX7_go_56 (by decide) (by omega) (by omega) (fun c_56 => ?_) (fun c_56 => ?_)
  · refine z_iconst dX7_go_164 ?_
    refine z_istore dX7_go_165 (by decide) ?_
    refine z_keys [0, 1, 2, 3, 4] ?_
    have ep : p = pc := by omega
    subst ep
    exact l3_X7_go hM hm ht ht3 hq hq3 hpc hpc2 hj hj3 hpap hV hO 0 I' ⟨hB, fun w' hw' => by omega⟩ (by omega)
  · have hp : p < pc := by omega
    have hpp := hpap p hp
    refine zcut 103 (bI (I 36 p ≤ (q : Int) ∧ (I 37 p = -1 ∨ (q : Int) < I 37 p))) ?_ (fun hc_59 => ?_)
    · refine z_istore dX7_go_103 (by decide) ?_
      refine z_aload_n dX7_go_105 rfl ?_
      refine y_getR dX7_go_106 fX7_37 (hM.lt (by decide)) (hM.2.1 24 (by decide)) rfl (hM.2.2 14) ?_
      refine z_iload dX7_go_109 rfl ?_
      refine y_ialoadJ (p) dX7_go_111 (hM.lt (by decide)) (hM.2.1 34 (by decide)) (by omega) (by decide) ?_
      rw [hB.1 34 p (by omega)]
      refine z_istore dX7_go_112 (by decide) ?_
      refine z_keys [0, 1, 2, 3, 4, 5, 6] ?_
      obtain ⟨d0, hd0⟩ : ∃ d0 : Nat, I 34 p = (d0 : Int) := ⟨(I 34 p).toNat, by omega⟩
      have h5 := l2b_X7_go (l := l) (E := E) hM hm ht ht3 hq hq3 hpc hpc2 hj hj3 hpap hV hO hp (fun I'' h => ih (p + 1) (by omega) I'' h (by omega)) d0 I' ⟨hB.1, fun d' hd' => ⟨(hB.2 d' hd').1, (hB.2 d' hd').2.1, ?_⟩⟩ ⟨by omega, by omega⟩
      · rw [bI_cong (show (ANm I m q p = true ∨ (ACm I m q p ∧ I 34 p < (d0 : Int))) ↔ ANm I m q p = true from ⟨fun h => h.elim id (fun h => absurd h.2 (by omega)), Or.inl⟩)] at h5
        rw [hd0]
        exact h5
      · rw [(hB.2 d' hd').2.2]
        exact bI_cong ⟨Or.inl, fun h => h.elim id (fun h => absurd h.2 (by omega))⟩
    · refine z_aload_n dX7_go_59 rfl ?_
      refine y_getR dX7_go_60 fX7_43 (hM.lt (by decide)) (hM.2.1 24 (by decide)) rfl (hM.2.2 16) ?_
      refine z_iload dX7_go_63 rfl ?_
      refine y_ialoadJ (p) dX7_go_65 (hM.lt (by decide)) (hM.2.1 36 (by decide)) (by omega) (by decide) ?_
      rw [hB.1 36 p (by omega)]
      refine z_aload_n dX7_go_66 rfl ?_
      refine y_getI dX7_go_67 fX7_107 (hM.lt (by decide)) (hM.2.1 24 (by decide)) rfl ?_
      rw [hB.1 24 26 (by omega), hq]
      refine z_icmp_gt 102 dX7_go_70 (by decide) (by omega) (by omega) (fun c_70 => ?_) (fun c_70 => ?_)
      · refine z_iconst dX7_go_102 ?_
        exact hc_59 _ (by first | (rw [bI_t (by omega)]; done) | (rw [bI_f (by omega)]; done))
      · refine z_aload_n dX7_go_73 rfl ?_
        refine y_getR dX7_go_74 fX7_46 (hM.lt (by decide)) (hM.2.1 24 (by decide)) rfl (hM.2.2 17) ?_
        refine z_iload dX7_go_77 rfl ?_
        refine y_ialoadJ (p) dX7_go_79 (hM.lt (by decide)) (hM.2.1 37 (by decide)) (by omega) (by decide) ?_
        rw [hB.1 37 p (by omega)]
        refine z_iconst dX7_go_80 ?_
        refine z_icmp_eq 98 dX7_go_81 (by decide) (by omega) (by omega) (fun c_81 => ?_) (fun c_81 => ?_)
        · refine z_iconst dX7_go_98 ?_
          refine z_goto 103 dX7_go_99 (by decide) ?_
          exact hc_59 _ (by first | (rw [bI_t (by omega)]; done) | (rw [bI_f (by omega)]; done))
        · refine z_aload_n dX7_go_84 rfl ?_
          refine y_getR dX7_go_85 fX7_46 (hM.lt (by decide)) (hM.2.1 24 (by decide)) rfl (hM.2.2 17) ?_
          refine z_iload dX7_go_88 rfl ?_
          refine y_ialoadJ (p) dX7_go_90 (hM.lt (by decide)) (hM.2.1 37 (by decide)) (by omega) (by decide) ?_
          rw [hB.1 37 p (by omega)]
          refine z_aload_n dX7_go_91 rfl ?_
          refine y_getI dX7_go_92 fX7_107 (hM.lt (by decide)) (hM.2.1 24 (by decide)) rfl ?_
          rw [hB.1 24 26 (by omega), hq]
          refine z_icmp_le 102 dX7_go_95 (by decide) (by omega) (by omega) (fun c_95 => ?_) (fun c_95 => ?_)
          · refine z_iconst dX7_go_102 ?_
            exact hc_59 _ (by first | (rw [bI_t (by omega)]; done) | (rw [bI_f (by omega)]; done))
          · refine z_iconst dX7_go_98 ?_
            refine z_goto 103 dX7_go_99 (by decide) ?_
            exact hc_59 _ (by first | (rw [bI_t (by omega)]; done) | (rw [bI_f (by omega)]; done))
set_option maxHeartbeats 4000000 in
set_option maxRecDepth 100000 in
theorem l1_X7_go (hM : yM n sh P) {m t q j pc : Nat} (hm : m < 40) (ht : I 24 0 = (t : Int)) (ht3 : t ≤ 300) (hq : I 24 26 = (q : Int)) (hq3 : q ≤ 300) (hpc : I 24 3 = (pc : Int)) (hpc2 : pc ≤ 200) (hj : I 27 m = (j : Int)) (hj3 : j ≤ 300) (hpap : mPap I pc t) (hV : ∀ k w, k < 7 → w ≤ t → 0 ≤ mV I k w ∧ mV I k w ≤ 400) (hO : ∀ w, w ≤ t → -2147483648 ≤ sOw I m w q j ∧ sOw I m w q j ≤ 2147483647) : ∀ d : Nat, ∀ I', gA I I' d → d ≤ 7 * t + 7 → Z l E jX7_go (rm 3 68) (yE E 0 0 (yS none n sh P (fun I' => mGo I I' m q j pc t))) 0 0 (zw E n sh I' P) 13 [(0, .ref (zb E + 24)), (1, .int (iI m)), (2, .int (iI (7 * (t : Int) + 7))), (3, .int (iI d))] [] := by
  refine zloop (fun d : Nat => 7 * t + 7 - d) (fun d ih I' hA hd0 => ?_)
  refine z_iload_n dX7_go_13 rfl ?_
  refine z_iload_n dX7_go_14 rfl ?_
  refine z_icmp_ge 45 dX7_go_15 (by decide) (by omega) (by omega) (fun c_15 => ?_) (fun c_15 => ?_)
  · refine z_iconst dX7_go_45 ?_
    refine z_istore_n dX7_go_46 (by decide) ?_
    refine z_iconst dX7_go_47 ?_
    refine z_istore dX7_go_48 (by decide) ?_
    refine z_keys [0, 1, 2, 3, 4] ?_
    exact l2_X7_go hM hm ht ht3 hq hq3 hpc hpc2 hj hj3 hpap hV hO 0 I' ⟨hA.1, fun d' hd' => hA.2 d' (by omega)⟩ (by omega)
  · refine z_aload_n dX7_go_18 rfl ?_
    refine y_getR dX7_go_19 fX7_79 (hM.lt (by decide)) (hM.2.1 24 (by decide)) rfl (hM.2.2 29) ?_
    refine z_iload_n dX7_go_22 rfl ?_
    refine z_iconst dX7_go_23 ?_
    refine y_bastoreJ (d) dX7_go_24 (hM.lt (by decide)) (hM.2.1 48 (by decide)) (by omega) (by decide) (by decide) ?_
    refine z_aload_n dX7_go_25 rfl ?_
    refine y_getR dX7_go_26 fX7_73 (hM.lt (by decide)) (hM.2.1 24 (by decide)) rfl (hM.2.2 27) ?_
    refine z_iload_n dX7_go_29 rfl ?_
    refine z_iconst dX7_go_30 ?_
    refine y_iastoreJ (d) dX7_go_31 (hM.lt (by decide)) (hM.2.1 46 (by decide)) (by omega) (by decide) ?_
    refine z_aload_n dX7_go_32 rfl ?_
    refine y_getR dX7_go_33 fX7_76 (hM.lt (by decide)) (hM.2.1 24 (by decide)) rfl (hM.2.2 28) ?_
    refine z_iload_n dX7_go_36 rfl ?_
    refine z_iconst dX7_go_37 ?_
    refine y_iastoreJ (d) dX7_go_38 (hM.lt (by decide)) (hM.2.1 47 (by decide)) (by omega) (by decide) ?_
    refine z_iinc dX7_go_39 rfl (by decide) ?_
    refine z_goto 13 dX7_go_42 (by decide) ?_
    refine z_keys [0, 1, 2, 3] ?_
    refine ih (d + 1) (by omega) _ ⟨((hA.1.up (by omega)).up (by omega)).up (by omega), fun d' hd' => ?_⟩ (by omega)
    by_cases e : d' = d
    · subst e; simp [zup]
    · have h := hA.2 d' (by omega)
      simp only [zup, e, and_false, if_false]; exact h
set_option maxHeartbeats 4000000 in
set_option maxRecDepth 100000 in
/-- go(m) -/
theorem c_X7_go (hM : yM n sh P) {m t q j pc : Nat} (hm : m < 40) (ht : I 24 0 = (t : Int)) (ht3 : t ≤ 300) (hq : I 24 26 = (q : Int)) (hq3 : q ≤ 300) (hpc : I 24 3 = (pc : Int)) (hpc2 : pc ≤ 200) (hj : I 27 m = (j : Int)) (hj3 : j ≤ 300) (hpap : mPap I pc t) (hV : ∀ k w, k < 7 → w ≤ t → 0 ≤ mV I k w ∧ mV I k w ≤ 400) (hO : ∀ w, w ≤ t → -2147483648 ≤ sOw I m w q j ∧ sOw I m w q j ≤ 2147483647) : yC l E jX7_go (rm 3 68) [.ref (zb E + 24), .int (iI m)] n sh I P (yS none n sh P (fun I' => mGo I I' m q j pc t)) := by
  refine yC_of (by decide) (Nat.le_of_ble_eq_true rfl) ?_
  refine z_bipush dX7_go_0 rfl ?_
  refine z_aload_n dX7_go_2 rfl ?_
  refine y_getI dX7_go_3 fX7_100 (hM.lt (by decide)) (hM.2.1 24 (by decide)) rfl ?_
  refine z_imul dX7_go_6 ?_
  refine z_bipush dX7_go_7 rfl ?_
  refine z_iadd dX7_go_9 ?_
  refine z_top (7 * (t : Int) + 7) (by rw [ht]) ?_
  refine z_istore_n dX7_go_10 (by decide) ?_
  refine z_iconst dX7_go_11 ?_
  refine z_istore_n dX7_go_12 (by decide) ?_
  refine z_keys [0, 1, 2, 3] ?_
  exact l1_X7_go hM hm ht ht3 hq hq3 hpc hpc2 hj hj3 hpap hV hO 0 I ⟨fun _ _ _ => rfl, fun d' hd' => by omega⟩ (by omega)
end MG3
