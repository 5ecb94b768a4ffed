/-- the reference's table -/
def mV (I : Nat → Nat → Int) (k w : Nat) : Int := I 45 (301 * k + w)
/-- what grantDay() makes -/
def mGd (I I' : Nat → Nat → Int) (d : Nat) (x y : Int) : Prop := (∀ a b, ¬ ((a = 46 ∨ a = 47) ∧ b = d) → I' a b = I a b) ∧ I' 46 d = x ∧ I' 47 d = y
section MG
variable {l : Launch} {E : zEnv} {n : Nat} {sh : Nat → Nat × Nat} {I : Nat → Nat → Int} {P : Nat → Nat → Option Nat}
set_option maxHeartbeats 4000000 in
set_option maxRecDepth 100000 in
theorem c_X7_grantDay (hM : yM n sh P) {d w b : Nat} {c : Int} (hd : d < 2107) (hw : w ≤ 300) (hb : b ≤ 300) (hc : 0 ≤ c ∧ c ≤ 2107) (h1 : 0 ≤ I 45 (301 * 1 + b) ∧ I 45 (301 * 1 + b) ≤ 400) (h3 : 0 ≤ I 45 (301 * 3 + b) ∧ I 45 (301 * 3 + b) ≤ 400) (h4 : 0 ≤ I 45 (301 * 4 + b) ∧ I 45 (301 * 4 + b) ≤ 400) (h2 : 0 ≤ I 45 (301 * 2 + w) ∧ I 45 (301 * 2 + w) ≤ 400) (ho : I 49 w = 0 ∨ I 49 w = 1) : yC l E jX7_grantDay (rm 1 22) [.ref (zb E + 24), .int (iI d), .int (iI w), .int (iI b), .int (iI c)] n sh I P (yS none n sh P (fun I' => mGd I I' d (if I 49 w = 1 then 5 else nat5 (I 45 (301 * 1 + b)) (I 45 (301 * 1 + b) + I 45 (301 * 3 + b)) (I 45 (301 * 1 + b) + I 45 (301 * 3 + b) + I 45 (301 * 4 + b)) c) (if I 49 w = 1 then 0 else coi (I 45 (301 * 1 + b)) (I 45 (301 * 1 + b) + I 45 (301 * 3 + b)) (I 45 (301 * 1 + b) + I 45 (301 * 3 + b) + I 45 (301 * 4 + b)) (I 45 (301 * 2 + w)) c))) := by
  refine yC_of (by decide) (Nat.le_of_ble_eq_true rfl) ?_
  refine z_aload_n dX7_grantDay_0 rfl ?_
  refine z_iconst dX7_grantDay_1 ?_
  refine z_iload_n dX7_grantDay_2 rfl ?_
  refine y_callV dX7_grantDay_3 kX7_114 (c_X7_value (k := 1) (w := b) hM (by omega) (by omega)) (hM.lt (by decide)) (hM.2.1 24 (by decide)) rfl rfl rfl (Nat.le_of_ble_eq_true rfl) ⟨⟨by decide, by decide⟩, by decide, by decide⟩ (fun v3 n3 sh3 I3 P3 hp3 => ?_)
  obtain ⟨rfl, rfl, rfl, rfl, rfl⟩ := hp3
  refine z_istore dX7_grantDay_6 (by decide) ?_
  refine z_iload dX7_grantDay_8 rfl ?_
  refine z_aload_n dX7_grantDay_10 rfl ?_
  refine z_iconst dX7_grantDay_11 ?_
  refine z_iload_n dX7_grantDay_12 rfl ?_
  refine y_callV dX7_grantDay_13 kX7_114 (c_X7_value (k := 3) (w := b) hM (by omega) (by omega)) (hM.lt (by decide)) (hM.2.1 24 (by decide)) rfl rfl rfl (Nat.le_of_ble_eq_true rfl) ⟨⟨by decide, by decide⟩, by decide, by decide⟩ (fun v13 n13 sh13 I13 P13 hp13 => ?_)
  obtain ⟨rfl, rfl, rfl, rfl, rfl⟩ := hp13
  refine z_iadd dX7_grantDay_16 ?_
  refine z_istore dX7_grantDay_17 (by decide) ?_
  refine z_iload dX7_grantDay_19 rfl ?_
  refine z_aload_n dX7_grantDay_21 rfl ?_
  refine z_iconst dX7_grantDay_22 ?_
  refine z_iload_n dX7_grantDay_23 rfl ?_
  refine y_callV dX7_grantDay_24 kX7_114 (c_X7_value (k := 4) (w := b) hM (by omega) (by omega)) (hM.lt (by decide)) (hM.2.1 24 (by decide)) rfl rfl rfl (Nat.le_of_ble_eq_true rfl) ⟨⟨by decide, by decide⟩, by decide, by decide⟩ (fun v24 n24 sh24 I24 P24 hp24 => ?_)
  obtain ⟨rfl, rfl, rfl, rfl, rfl⟩ := hp24
  refine z_iadd dX7_grantDay_27 ?_
  refine z_istore dX7_grantDay_28 (by decide) ?_
  refine z_aload_n dX7_grantDay_30 rfl ?_
  refine z_iconst dX7_grantDay_31 ?_
  refine z_iload_n dX7_grantDay_32 rfl ?_
  refine y_callV dX7_grantDay_33 kX7_114 (c_X7_value (k := 2) (w := w) hM (by omega) (by omega)) (hM.lt (by decide)) (hM.2.1 24 (by decide)) rfl rfl rfl (Nat.le_of_ble_eq_true rfl) ⟨⟨by decide, by decide⟩, by decide, by decide⟩ (fun v33 n33 sh33 I33 P33 hp33 => ?_)
  obtain ⟨rfl, rfl, rfl, rfl, rfl⟩ := hp33
  refine z_istore dX7_grantDay_36 (by decide) ?_
  refine z_aload_n dX7_grantDay_38 rfl ?_
  refine y_getR dX7_grantDay_39 fX7_73 (hM.lt (by decide)) (hM.2.1 24 (by decide)) rfl (hM.2.2 27) ?_
  refine z_iload_n dX7_grantDay_42 rfl ?_
  refine zcut 77 (nat5 (I 45 (301 * 1 + b)) (I 45 (301 * 1 + b) + I 45 (301 * 3 + b)) (I 45 (301 * 1 + b) + I 45 (301 * 3 + b) + I 45 (301 * 4 + b)) c) ?_ (fun hc_43 => ?_)
  · refine y_iastoreJ (d) dX7_grantDay_77 (hM.lt (by decide)) (hM.2.1 46 (by decide)) (by omega) (by decide) ?_
    refine z_aload_n dX7_grantDay_78 rfl ?_
    refine y_getR dX7_grantDay_79 fX7_76 (hM.lt (by decide)) (hM.2.1 24 (by decide)) rfl (hM.2.2 28) ?_
    refine z_iload_n dX7_grantDay_82 rfl ?_
    refine zcut 124 (coi (I 45 (301 * 1 + b)) (I 45 (301 * 1 + b) + I 45 (301 * 3 + b)) (I 45 (301 * 1 + b) + I 45 (301 * 3 + b) + I 45 (301 * 4 + b)) (I 45 (301 * 2 + w)) c) ?_ (fun hc_83 => ?_)
    · refine y_iastoreJ (d) dX7_grantDay_124 (hM.lt (by decide)) (hM.2.1 47 (by decide)) (by omega) (by decide) ?_
      refine z_aload_n dX7_grantDay_125 rfl ?_
      refine y_getR dX7_grantDay_126 fX7_83 (hM.lt (by decide)) (hM.2.1 24 (by decide)) rfl (hM.2.2 30) ?_
      refine z_iload_n dX7_grantDay_129 rfl ?_
      refine y_baloadJ (w) dX7_grantDay_130 (hM.lt (by decide)) (hM.2.1 49 (by decide)) (by omega) (by decide) ?_
      have e49 : zup (zup I 46 d (nat5 (I 45 (301 * 1 + b)) (I 45 (301 * 1 + b) + I 45 (301 * 3 + b)) (I 45 (301 * 1 + b) + I 45 (301 * 3 + b) + I 45 (301 * 4 + b)) c)) 47 d (coi (I 45 (301 * 1 + b)) (I 45 (301 * 1 + b) + I 45 (301 * 3 + b)) (I 45 (301 * 1 + b) + I 45 (301 * 3 + b) + I 45 (301 * 4 + b)) (I 45 (301 * 2 + w)) c) 49 w = I 49 w := by rw [zup_ne (by decide), zup_ne (by decide)]
      rw [e49]
      refine z_if_eq 148 dX7_grantDay_131 (by decide) (by omega) (fun c_131 => ?_) (fun c_131 => ?_)
      · refine y_return dX7_grantDay_148 rfl ?_
        refine ⟨rfl, rfl, rfl, rfl, fun a b' hab => ?_, ?_, ?_⟩
        · have g1 : ¬ (a = 46 ∧ b' = d) := fun h => hab ⟨Or.inl h.1, h.2⟩
          have g2 : ¬ (a = 47 ∧ b' = d) := fun h => hab ⟨Or.inr h.1, h.2⟩
          simp only [zup, g1, g2, if_false]
        · first | (rw [if_pos (by omega)]; simp [zup]; done) | (rw [if_neg (by omega)]; simp [zup]; done)
        · first | (rw [if_pos (by omega)]; simp [zup]; done) | (rw [if_neg (by omega)]; simp [zup]; done)
      · refine z_aload_n dX7_grantDay_134 rfl ?_
        refine y_getR dX7_grantDay_135 fX7_73 (hM.lt (by decide)) (hM.2.1 24 (by decide)) rfl (hM.2.2 27) ?_
        refine z_iload_n dX7_grantDay_138 rfl ?_
        refine z_iconst dX7_grantDay_139 ?_
        refine y_iastoreJ (d) dX7_grantDay_140 (hM.lt (by decide)) (hM.2.1 46 (by decide)) (by omega) (by decide) ?_
        refine z_aload_n dX7_grantDay_141 rfl ?_
        refine y_getR dX7_grantDay_142 fX7_76 (hM.lt (by decide)) (hM.2.1 24 (by decide)) rfl (hM.2.2 28) ?_
        refine z_iload_n dX7_grantDay_145 rfl ?_
        refine z_iconst dX7_grantDay_146 ?_
        refine y_iastoreJ (d) dX7_grantDay_147 (hM.lt (by decide)) (hM.2.1 47 (by decide)) (by omega) (by decide) ?_
        refine y_return dX7_grantDay_148 rfl ?_
        refine ⟨rfl, rfl, rfl, rfl, fun a b' hab => ?_, ?_, ?_⟩
        · have g1 : ¬ (a = 46 ∧ b' = d) := fun h => hab ⟨Or.inl h.1, h.2⟩
          have g2 : ¬ (a = 47 ∧ b' = d) := fun h => hab ⟨Or.inr h.1, h.2⟩
          simp only [zup, g1, g2, if_false]
        · first | (rw [if_pos (by omega)]; simp [zup]; done) | (rw [if_neg (by omega)]; simp [zup]; done)
        · first | (rw [if_pos (by omega)]; simp [zup]; done) | (rw [if_neg (by omega)]; simp [zup]; done)
    · refine z_iload dX7_grantDay_83 rfl ?_
      refine z_iload dX7_grantDay_85 rfl ?_
      refine z_icmp_gt 94 dX7_grantDay_87 (by decide) (by omega) (by omega) (fun c_87 => ?_) (fun c_87 => ?_)
      · refine z_iload dX7_grantDay_94 rfl ?_
        refine z_iload dX7_grantDay_96 rfl ?_
        refine z_icmp_gt 106 dX7_grantDay_98 (by decide) (by omega) (by omega) (fun c_98 => ?_) (fun c_98 => ?_)
        · refine z_iload dX7_grantDay_106 rfl ?_
          refine z_iload dX7_grantDay_108 rfl ?_
          refine z_icmp_gt 120 dX7_grantDay_110 (by decide) (by omega) (by omega) (fun c_110 => ?_) (fun c_110 => ?_)
          · refine z_iload dX7_grantDay_120 rfl ?_
            refine z_iconst dX7_grantDay_122 ?_
            refine z_idiv dX7_grantDay_123 (by omega) (by omega) ?_
            exact hc_83 _ (by unfold coi; split <;> first | rfl | omega | (split <;> first | rfl | omega | (split <;> first | rfl | omega)))
          · refine z_iload dX7_grantDay_113 rfl ?_
            refine z_iconst dX7_grantDay_115 ?_
            refine z_idiv dX7_grantDay_116 (by omega) (by omega) ?_
            refine z_goto 124 dX7_grantDay_117 (by decide) ?_
            exact hc_83 _ (by unfold coi; split <;> first | rfl | omega | (split <;> first | rfl | omega | (split <;> first | rfl | omega)))
        · refine z_iload dX7_grantDay_101 rfl ?_
          refine z_goto 124 dX7_grantDay_103 (by decide) ?_
          exact hc_83 _ (by unfold coi; split <;> first | rfl | omega | (split <;> first | rfl | omega | (split <;> first | rfl | omega)))
      · refine z_iconst dX7_grantDay_90 ?_
        refine z_goto 124 dX7_grantDay_91 (by decide) ?_
        exact hc_83 _ (by unfold coi; split <;> first | rfl | omega | (split <;> first | rfl | omega | (split <;> first | rfl | omega)))
  · refine z_iload dX7_grantDay_43 rfl ?_
    refine z_iload dX7_grantDay_45 rfl ?_
    refine z_icmp_gt 54 dX7_grantDay_47 (by decide) (by omega) (by omega) (fun c_47 => ?_) (fun c_47 => ?_)
    · refine z_iload dX7_grantDay_54 rfl ?_
      refine z_iload dX7_grantDay_56 rfl ?_
      refine z_icmp_gt 65 dX7_grantDay_58 (by decide) (by omega) (by omega) (fun c_58 => ?_) (fun c_58 => ?_)
      · refine z_iload dX7_grantDay_65 rfl ?_
        refine z_iload dX7_grantDay_67 rfl ?_
        refine z_icmp_gt 76 dX7_grantDay_69 (by decide) (by omega) (by omega) (fun c_69 => ?_) (fun c_69 => ?_)
        · refine z_iconst dX7_grantDay_76 ?_
          exact hc_43 _ (by unfold nat5; split <;> first | rfl | omega | (split <;> first | rfl | omega | (split <;> first | rfl | omega)))
        · refine z_iconst dX7_grantDay_72 ?_
          refine z_goto 77 dX7_grantDay_73 (by decide) ?_
          exact hc_43 _ (by unfold nat5; split <;> first | rfl | omega | (split <;> first | rfl | omega | (split <;> first | rfl | omega)))
      · refine z_iconst dX7_grantDay_61 ?_
        refine z_goto 77 dX7_grantDay_62 (by decide) ?_
        exact hc_43 _ (by unfold nat5; split <;> first | rfl | omega | (split <;> first | rfl | omega | (split <;> first | rfl | omega)))
    · refine z_iconst dX7_grantDay_50 ?_
      refine z_goto 77 dX7_grantDay_51 (by decide) ?_
      exact hc_43 _ (by unfold nat5; split <;> first | rfl | omega | (split <;> first | rfl | omega | (split <;> first | rfl | omega)))
end MG
