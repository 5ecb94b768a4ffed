def mJoin (I : Nat → Nat → Int) (mc : Nat) (y d t : Int) : Nat → Nat → Int := zup (zup (zup (zup I 25 mc y) 26 mc d) 27 mc t) 24 1 ((mc : Int) + 1)
def mWr (I : Nat → Nat → Int) (r : Nat) (k f v t : Int) : Nat → Nat → Int := zup (zup (zup (zup I 29 r k) 30 r f) 31 r v) 32 r t
def mPa (I : Nat → Nat → Int) (p : Nat) (m f a t : Int) : Nat → Nat → Int := zup (zup (zup (zup (zup (zup I 33 p m) 34 p f) 35 p a) 36 p t) 37 p (-1)) 24 3 ((p : Int) + 1)
def mBo (I : Nat → Nat → Int) (b : Nat) (t : Int) (w m : Nat) (d : Int) : Nat → Nat → Int := zup (zup (zup (zup (zup (zup I 39 b t) 40 b w) 41 b m) 42 b d) 24 4 ((b : Int) + 1)) 38 (301 * m + w) (I 38 (301 * m + w) + d)
def mEn (I : Nat → Nat → Int) (i : Nat) (a : Int) : Int := if a = 0 then I 39 i else if a = 1 then I 40 i else if a = 2 then I 41 i else if a = 3 then I 42 i else -1000000
def mMe (I : Nat → Nat → Int) (m : Nat) (a : Int) : Int := if a = 0 then I 25 m else if a = 1 then I 26 m else if a = 2 then I 27 m else if a = 3 then sm (fun k => I 28 (301 * m + k)) 301 else -1
def mTo (I : Nat → Nat → Int) (p : Nat) (a : Int) : Int := if a = 0 then I 33 p else if a = 1 then I 34 p else if a = 2 then I 35 p else if a = 3 then I 36 p else if a = 4 then I 37 p else -1
section MP
variable {l : Launch} {E : zEnv} {n : Nat} {sh : Nat → Nat × Nat} {I : Nat → Nat → Int} {P : Nat → Nat → Option Nat}
set_option maxHeartbeats 4000000 in
set_option maxRecDepth 100000 in
theorem c_X7_join (hM : yM n sh P) {t : Int} (ht : I 24 0 = t) (ht3 : 0 ≤ t ∧ t ≤ 300) {mc : Nat} (hmc : I 24 1 = (mc : Int)) (hmc4 : mc ≤ 40) {y d : Int} (hy : (-2147483648 ≤ y ∧ y ≤ 2147483647)) (hd : (-2147483648 ≤ d ∧ d ≤ 2147483647)) : yC l E jX7_join (rm 1 22) [.ref (zb E + 24), .int (iI y), .int (iI d)] n sh I P (yR (some (.int (iI (if (mc < 40 ∧ (16 ≤ y ∧ y ≤ 60) ∧ (0 ≤ d ∧ d ≤ 3)) then (mc : Int) else -1)))) n sh (if (mc < 40 ∧ (16 ≤ y ∧ y ≤ 60) ∧ (0 ≤ d ∧ d ≤ 3)) then mJoin I mc y d t else I) P) := by
  refine yC_of (by decide) (Nat.le_of_ble_eq_true rfl) ?_
  refine z_aload_n dX7_join_0 rfl ?_
  refine y_getI dX7_join_1 fX7_92 (hM.lt (by decide)) (hM.2.1 24 (by decide)) rfl ?_
  refine z_bipush dX7_join_4 rfl ?_
  refine z_icmp_eq 29 dX7_join_6 (by decide) (by omega) (by omega) (fun c_6 => ?_) (fun c_6 => ?_)
  · refine z_iconst dX7_join_29 ?_
    refine y_ireturn dX7_join_30 rfl ?_
    first | (rw [if_pos (by omega), if_pos (by omega)]; exact yR_rfl) | (rw [if_neg (by omega), if_neg (by omega)]; exact yR_rfl)
  · refine z_iload_n dX7_join_9 rfl ?_
    refine z_bipush dX7_join_10 rfl ?_
    refine z_bipush dX7_join_12 rfl ?_
    refine y_callS dX7_join_14 kX7_96 (c_X7_in (by omega) (by omega) (by omega)) rfl rfl (Nat.le_of_ble_eq_true rfl) ⟨⟨by decide, by decide⟩, by decide, by decide⟩ (fun v14 n14 sh14 I14 P14 hp14 => ?_)
    obtain ⟨rfl, rfl, rfl, rfl, rfl⟩ := hp14
    refine z_if_eq 29 dX7_join_17 (by decide) (bI_rng _) (fun c_17 => ?_) (fun c_17 => ?_)
    · have c_17 := bI_0 c_17
      refine z_iconst dX7_join_29 ?_
      refine y_ireturn dX7_join_30 rfl ?_
      first | (rw [if_pos (by omega), if_pos (by omega)]; exact yR_rfl) | (rw [if_neg (by omega), if_neg (by omega)]; exact yR_rfl)
    · have c_17 := bI_1 c_17
      refine z_iload_n dX7_join_20 rfl ?_
      refine z_iconst dX7_join_21 ?_
      refine z_iconst dX7_join_22 ?_
      refine y_callS dX7_join_23 kX7_96 (c_X7_in (by omega) (by omega) (by omega)) rfl rfl (Nat.le_of_ble_eq_true rfl) ⟨⟨by decide, by decide⟩, by decide, by decide⟩ (fun v23 n23 sh23 I23 P23 hp23 => ?_)
      obtain ⟨rfl, rfl, rfl, rfl, rfl⟩ := hp23
      refine z_if_ne 31 dX7_join_26 (by decide) (bI_rng _) (fun c_26 => ?_) (fun c_26 => ?_)
      · have c_26 := bI_1 c_26
        refine z_aload_n dX7_join_31 rfl ?_
        refine y_getR dX7_join_32 fX7_9 (hM.lt (by decide)) (hM.2.1 24 (by decide)) rfl (hM.2.2 5) ?_
        refine z_aload_n dX7_join_35 rfl ?_
        refine y_getI dX7_join_36 fX7_92 (hM.lt (by decide)) (hM.2.1 24 (by decide)) rfl ?_
        refine z_top ((mc : Int)) (by simp [zup, *]) ?_
        refine z_iload_n dX7_join_39 rfl ?_
        refine y_iastoreJ (mc) dX7_join_40 (hM.lt (by decide)) (hM.2.1 25 (by decide)) (by omega) (by decide) ?_
        refine z_aload_n dX7_join_41 rfl ?_
        refine y_getR dX7_join_42 fX7_13 (hM.lt (by decide)) (hM.2.1 24 (by decide)) rfl (hM.2.2 6) ?_
        refine z_aload_n dX7_join_45 rfl ?_
        refine y_getI dX7_join_46 fX7_92 (hM.lt (by decide)) (hM.2.1 24 (by decide)) rfl ?_
        refine z_top ((mc : Int)) (by simp [zup, *]) ?_
        refine z_iload_n dX7_join_49 rfl ?_
        refine y_iastoreJ (mc) dX7_join_50 (hM.lt (by decide)) (hM.2.1 26 (by decide)) (by omega) (by decide) ?_
        refine z_aload_n dX7_join_51 rfl ?_
        refine y_getR dX7_join_52 fX7_16 (hM.lt (by decide)) (hM.2.1 24 (by decide)) rfl (hM.2.2 7) ?_
        refine z_aload_n dX7_join_55 rfl ?_
        refine y_getI dX7_join_56 fX7_92 (hM.lt (by decide)) (hM.2.1 24 (by decide)) rfl ?_
        refine z_top ((mc : Int)) (by simp [zup, *]) ?_
        refine z_aload_n dX7_join_59 rfl ?_
        refine y_getI dX7_join_60 fX7_100 (hM.lt (by decide)) (hM.2.1 24 (by decide)) rfl ?_
        refine z_top (t) (by simp [zup, *]) ?_
        refine y_iastoreJ (mc) dX7_join_63 (hM.lt (by decide)) (hM.2.1 27 (by decide)) (by omega) (by decide) ?_
        refine z_aload_n dX7_join_64 rfl ?_
        refine z_dup dX7_join_65 rfl ?_
        refine y_getI dX7_join_66 fX7_92 (hM.lt (by decide)) (hM.2.1 24 (by decide)) rfl ?_
        refine z_top ((mc : Int)) (by simp [zup, *]) ?_
        refine z_iconst dX7_join_69 ?_
        refine z_iadd dX7_join_70 ?_
        refine y_putI dX7_join_71 fX7_92 (hM.lt (by decide)) (hM.2.1 24 (by decide)) rfl ?_
        refine z_aload_n dX7_join_74 rfl ?_
        refine y_getI dX7_join_75 fX7_92 (hM.lt (by decide)) (hM.2.1 24 (by decide)) rfl ?_
        refine z_top ((mc : Int) + 1) (by simp [zup, *]) ?_
        refine z_iconst dX7_join_78 ?_
        refine z_isub dX7_join_79 ?_
        refine y_ireturn dX7_join_80 rfl ?_
        rw [Int.add_sub_cancel]
        first | (rw [if_pos (by omega), if_pos (by omega)]; exact yR_rfl) | (rw [if_neg (by omega), if_neg (by omega)]; exact yR_rfl)
      · have c_26 := bI_0 c_26
        refine z_iconst dX7_join_29 ?_
        refine y_ireturn dX7_join_30 rfl ?_
        first | (rw [if_pos (by omega), if_pos (by omega)]; exact yR_rfl) | (rw [if_neg (by omega), if_neg (by omega)]; exact yR_rfl)
set_option maxHeartbeats 4000000 in
set_option maxRecDepth 100000 in
theorem c_X7_write (hM : yM n sh P) {t : Int} (ht : I 24 0 = t) (ht3 : 0 ≤ t ∧ t ≤ 300) {rc : Nat} (hrc : I 24 2 = (rc : Int)) (hrc2 : rc ≤ 200) {k f v : Int} : yC l E jX7_write (rm 0 0) [.ref (zb E + 24), .int (iI k), .int (iI f), .int (iI v)] n sh I P (yR (none) n sh (mWr I rc k f v t) P) := by
  refine yC_of (by decide) (Nat.le_of_ble_eq_true rfl) ?_
  refine z_aload_n dX7_write_0 rfl ?_
  refine y_getR dX7_write_1 fX7_22 (hM.lt (by decide)) (hM.2.1 24 (by decide)) rfl (hM.2.2 9) ?_
  refine z_aload_n dX7_write_4 rfl ?_
  refine y_getI dX7_write_5 fX7_137 (hM.lt (by decide)) (hM.2.1 24 (by decide)) rfl ?_
  refine z_top ((rc : Int)) (by simp [zup, *]) ?_
  refine z_iload_n dX7_write_8 rfl ?_
  refine y_iastoreJ (rc) dX7_write_9 (hM.lt (by decide)) (hM.2.1 29 (by decide)) (by omega) (by decide) ?_
  refine z_aload_n dX7_write_10 rfl ?_
  refine y_getR dX7_write_11 fX7_25 (hM.lt (by decide)) (hM.2.1 24 (by decide)) rfl (hM.2.2 10) ?_
  refine z_aload_n dX7_write_14 rfl ?_
  refine y_getI dX7_write_15 fX7_137 (hM.lt (by decide)) (hM.2.1 24 (by decide)) rfl ?_
  refine z_top ((rc : Int)) (by simp [zup, *]) ?_
  refine z_iload_n dX7_write_18 rfl ?_
  refine y_iastoreJ (rc) dX7_write_19 (hM.lt (by decide)) (hM.2.1 30 (by decide)) (by omega) (by decide) ?_
  refine z_aload_n dX7_write_20 rfl ?_
  refine y_getR dX7_write_21 fX7_28 (hM.lt (by decide)) (hM.2.1 24 (by decide)) rfl (hM.2.2 11) ?_
  refine z_aload_n dX7_write_24 rfl ?_
  refine y_getI dX7_write_25 fX7_137 (hM.lt (by decide)) (hM.2.1 24 (by decide)) rfl ?_
  refine z_top ((rc : Int)) (by simp [zup, *]) ?_
  refine z_iload_n dX7_write_28 rfl ?_
  refine y_iastoreJ (rc) dX7_write_29 (hM.lt (by decide)) (hM.2.1 31 (by decide)) (by omega) (by decide) ?_
  refine z_aload_n dX7_write_30 rfl ?_
  refine y_getR dX7_write_31 fX7_31 (hM.lt (by decide)) (hM.2.1 24 (by decide)) rfl (hM.2.2 12) ?_
  refine z_aload_n dX7_write_34 rfl ?_
  refine y_getI dX7_write_35 fX7_137 (hM.lt (by decide)) (hM.2.1 24 (by decide)) rfl ?_
  refine z_top ((rc : Int)) (by simp [zup, *]) ?_
  refine z_aload_n dX7_write_38 rfl ?_
  refine y_getI dX7_write_39 fX7_100 (hM.lt (by decide)) (hM.2.1 24 (by decide)) rfl ?_
  refine z_top (t) (by simp [zup, *]) ?_
  refine y_iastoreJ (rc) dX7_write_42 (hM.lt (by decide)) (hM.2.1 32 (by decide)) (by omega) (by decide) ?_
  exact y_return dX7_write_43 rfl (yR_rfl)
set_option maxHeartbeats 4000000 in
set_option maxRecDepth 100000 in
theorem c_X7_rule (hM : yM n sh P) {t : Int} (ht : I 24 0 = t) (ht3 : 0 ≤ t ∧ t ≤ 300) {rc : Nat} (hrc : I 24 2 = (rc : Int)) (hrc2 : rc ≤ 200) {k f v : Int} (hk : (-2147483648 ≤ k ∧ k ≤ 2147483647)) (hf : (-2147483648 ≤ f ∧ f ≤ 2147483647)) (hv : (-2147483648 ≤ v ∧ v ≤ 2147483647)) : yC l E jX7_rule (rm 3 65) [.ref (zb E + 24), .int (iI k), .int (iI f), .int (iI v)] n sh I P (yR (some (.int (iI (if (sRule k f v ∧ rc < 200) then (rc : Int) + 1 else -1)))) n sh (if (sRule k f v ∧ rc < 200) then zup (mWr I rc k f v t) 24 2 ((rc : Int) + 1) else I) P) := by
  refine yC_of (by decide) (Nat.le_of_ble_eq_true rfl) ?_
  refine z_iload_n dX7_rule_0 rfl ?_
  refine z_iload_n dX7_rule_1 rfl ?_
  refine z_iload_n dX7_rule_2 rfl ?_
  refine y_callS dX7_rule_3 kX7_147 (c_X7_isRule hk hf hv) rfl rfl (Nat.le_of_ble_eq_true rfl) ⟨⟨by decide, by decide⟩, by decide, by decide⟩ (fun v3 n3 sh3 I3 P3 hp3 => ?_)
  obtain ⟨rfl, rfl, rfl, rfl, rfl⟩ := hp3
  refine z_if_eq 19 dX7_rule_6 (by decide) (bI_rng _) (fun c_6 => ?_) (fun c_6 => ?_)
  · have c_6 := bI_0 c_6
    refine z_iconst dX7_rule_19 ?_
    refine y_ireturn dX7_rule_20 rfl ?_
    first | (rw [if_pos ⟨c_6, by omega⟩, if_pos ⟨c_6, by omega⟩]; exact yR_rfl) | (rw [if_neg (fun h => by omega), if_neg (fun h => by omega)]; exact yR_rfl) | (rw [if_neg (fun h => c_6 h.1), if_neg (fun h => c_6 h.1)]; exact yR_rfl)
  · have c_6 := bI_1 c_6
    refine z_aload_n dX7_rule_9 rfl ?_
    refine y_getI dX7_rule_10 fX7_137 (hM.lt (by decide)) (hM.2.1 24 (by decide)) rfl ?_
    refine z_sipush dX7_rule_13 rfl ?_
    refine z_icmp_ne 21 dX7_rule_16 (by decide) (by omega) (by omega) (fun c_16 => ?_) (fun c_16 => ?_)
    · refine z_aload_n dX7_rule_21 rfl ?_
      refine z_iload_n dX7_rule_22 rfl ?_
      refine z_iload_n dX7_rule_23 rfl ?_
      refine z_iload_n dX7_rule_24 rfl ?_
      refine y_callV dX7_rule_25 kX7_150 (c_X7_write hM ht ht3 hrc hrc2) (hM.lt (by decide)) (hM.2.1 24 (by decide)) rfl rfl rfl (Nat.le_of_ble_eq_true rfl) ⟨⟨by decide, by decide⟩, by decide, by decide⟩ (fun v25 n25 sh25 I25 P25 hp25 => ?_)
      obtain ⟨rfl, rfl, rfl, rfl, rfl⟩ := hp25
      refine z_aload_n dX7_rule_28 rfl ?_
      refine z_dup dX7_rule_29 rfl ?_
      refine y_getI dX7_rule_30 fX7_137 (hM.lt (by decide)) (hM.2.1 24 (by decide)) rfl ?_
      refine z_top ((rc : Int)) (by simp [mWr, zup, *]) ?_
      refine z_iconst dX7_rule_33 ?_
      refine z_iadd dX7_rule_34 ?_
      refine y_putI dX7_rule_35 fX7_137 (hM.lt (by decide)) (hM.2.1 24 (by decide)) rfl ?_
      refine z_aload_n dX7_rule_38 rfl ?_
      refine y_getI dX7_rule_39 fX7_137 (hM.lt (by decide)) (hM.2.1 24 (by decide)) rfl ?_
      refine z_top ((rc : Int) + 1) (by simp [mWr, zup, *]) ?_
      refine y_ireturn dX7_rule_42 rfl ?_
      first | (rw [if_pos ⟨c_6, by omega⟩, if_pos ⟨c_6, by omega⟩]; exact yR_rfl) | (rw [if_neg (fun h => by omega), if_neg (fun h => by omega)]; exact yR_rfl) | (rw [if_neg (fun h => c_6 h.1), if_neg (fun h => c_6 h.1)]; exact yR_rfl)
    · refine z_iconst dX7_rule_19 ?_
      refine y_ireturn dX7_rule_20 rfl ?_
      first | (rw [if_pos ⟨c_6, by omega⟩, if_pos ⟨c_6, by omega⟩]; exact yR_rfl) | (rw [if_neg (fun h => by omega), if_neg (fun h => by omega)]; exact yR_rfl) | (rw [if_neg (fun h => c_6 h.1), if_neg (fun h => c_6 h.1)]; exact yR_rfl)
set_option maxHeartbeats 4000000 in
set_option maxRecDepth 100000 in
theorem c_X7_paper (hM : yM n sh P) {t : Int} (ht : I 24 0 = t) (ht3 : 0 ≤ t ∧ t ≤ 300) {mc : Nat} (hmc : I 24 1 = (mc : Int)) (hmc4 : mc ≤ 40) {pc : Nat} (hpc : I 24 3 = (pc : Int)) (hpc2 : pc ≤ 200) (hjo : ∀ i, i < mc → 0 ≤ I 27 i ∧ I 27 i ≤ 300) {m f a : Int} (hm : (-2147483648 ≤ m ∧ m ≤ 2147483647)) (hf : (-2147483648 ≤ f ∧ f ≤ 2147483647)) (ha : (-2147483648 ≤ a ∧ a ≤ 2147483647)) : yC l E jX7_paper (rm 2 43) [.ref (zb E + 24), .int (iI m), .int (iI f), .int (iI a)] n sh I P (yR (some (.int (iI (if ((0 ≤ m ∧ m < (mc : Int)) ∧ f ≤ a ∧ 7 * I 27 m.toNat ≤ f ∧ a ≤ 7 * t + 6 ∧ a - f < 400 ∧ pc < 200) then (pc : Int) else -1)))) n sh (if ((0 ≤ m ∧ m < (mc : Int)) ∧ f ≤ a ∧ 7 * I 27 m.toNat ≤ f ∧ a ≤ 7 * t + 6 ∧ a - f < 400 ∧ pc < 200) then mPa I pc m f a t else I) P) := by
  refine yC_of (by decide) (Nat.le_of_ble_eq_true rfl) ?_
  refine z_aload_n dX7_paper_0 rfl ?_
  refine z_iload_n dX7_paper_1 rfl ?_
  refine y_callV dX7_paper_2 kX7_132 (c_X7_isMember hM (by omega) (by omega)) (hM.lt (by decide)) (hM.2.1 24 (by decide)) rfl rfl rfl (Nat.le_of_ble_eq_true rfl) ⟨⟨by decide, by decide⟩, by decide, by decide⟩ (fun v2 n2 sh2 I2 P2 hp2 => ?_)
  obtain ⟨rfl, rfl, rfl, rfl, rfl⟩ := hp2
  refine z_if_eq 59 dX7_paper_5 (by decide) (bI_rng _) (fun c_5 => ?_) (fun c_5 => ?_)
  · have c_5 := bI_0 c_5
    refine z_iconst dX7_paper_59 ?_
    refine y_ireturn dX7_paper_60 rfl ?_
    first | (rw [if_pos (by omega), if_pos (by omega)]; exact yR_rfl) | (rw [if_neg (by omega), if_neg (by omega)]; exact yR_rfl)
  · have c_5 := bI_1 c_5
    refine z_iload_n dX7_paper_8 rfl ?_
    refine z_iload_n dX7_paper_9 rfl ?_
    refine z_icmp_gt 59 dX7_paper_10 (by decide) (by omega) (by omega) (fun c_10 => ?_) (fun c_10 => ?_)
    · refine z_iconst dX7_paper_59 ?_
      refine y_ireturn dX7_paper_60 rfl ?_
      first | (rw [if_pos (by omega), if_pos (by omega)]; exact yR_rfl) | (rw [if_neg (by omega), if_neg (by omega)]; exact yR_rfl)
    · obtain ⟨m0, rfl⟩ : ∃ m0 : Nat, m = m0 := ⟨m.toNat, by omega⟩
      rw [Int.toNat_natCast]
      have hj0 := hjo m0 (by omega)
      refine z_iload_n dX7_paper_13 rfl ?_
      refine z_bipush dX7_paper_14 rfl ?_
      refine z_aload_n dX7_paper_16 rfl ?_
      refine y_getR dX7_paper_17 fX7_16 (hM.lt (by decide)) (hM.2.1 24 (by decide)) rfl (hM.2.2 7) ?_
      refine z_iload_n dX7_paper_20 rfl ?_
      refine y_ialoadJ (m0) dX7_paper_21 (hM.lt (by decide)) (hM.2.1 27 (by decide)) (by omega) (by decide) ?_
      refine z_imul dX7_paper_22 ?_
      refine z_icmp_lt 59 dX7_paper_23 (by decide) (by omega) (by omega) (fun c_23 => ?_) (fun c_23 => ?_)
      · refine z_iconst dX7_paper_59 ?_
        refine y_ireturn dX7_paper_60 rfl ?_
        first | (rw [if_pos (by omega), if_pos (by omega)]; exact yR_rfl) | (rw [if_neg (by omega), if_neg (by omega)]; exact yR_rfl)
      · refine z_iload_n dX7_paper_26 rfl ?_
        refine z_bipush dX7_paper_27 rfl ?_
        refine z_aload_n dX7_paper_29 rfl ?_
        refine y_getI dX7_paper_30 fX7_100 (hM.lt (by decide)) (hM.2.1 24 (by decide)) rfl ?_
        refine z_imul dX7_paper_33 ?_
        refine z_bipush dX7_paper_34 rfl ?_
        refine z_iadd dX7_paper_36 ?_
        refine z_icmp_gt 59 dX7_paper_37 (by decide) (by omega) (by omega) (fun c_37 => ?_) (fun c_37 => ?_)
        · refine z_iconst dX7_paper_59 ?_
          refine y_ireturn dX7_paper_60 rfl ?_
          first | (rw [if_pos (by omega), if_pos (by omega)]; exact yR_rfl) | (rw [if_neg (by omega), if_neg (by omega)]; exact yR_rfl)
        · refine z_iload_n dX7_paper_40 rfl ?_
          refine z_iload_n dX7_paper_41 rfl ?_
          refine z_isub dX7_paper_42 ?_
          refine z_sipush dX7_paper_43 rfl ?_
          refine z_icmp_ge 59 dX7_paper_46 (by decide) (by omega) (by omega) (fun c_46 => ?_) (fun c_46 => ?_)
          · refine z_iconst dX7_paper_59 ?_
            refine y_ireturn dX7_paper_60 rfl ?_
            first | (rw [if_pos (by omega), if_pos (by omega)]; exact yR_rfl) | (rw [if_neg (by omega), if_neg (by omega)]; exact yR_rfl)
          · refine z_aload_n dX7_paper_49 rfl ?_
            refine y_getI dX7_paper_50 fX7_121 (hM.lt (by decide)) (hM.2.1 24 (by decide)) rfl ?_
            refine z_sipush dX7_paper_53 rfl ?_
            refine z_icmp_ne 61 dX7_paper_56 (by decide) (by omega) (by omega) (fun c_56 => ?_) (fun c_56 => ?_)
            · refine z_aload_n dX7_paper_61 rfl ?_
              refine y_getR dX7_paper_62 fX7_34 (hM.lt (by decide)) (hM.2.1 24 (by decide)) rfl (hM.2.2 13) ?_
              refine z_aload_n dX7_paper_65 rfl ?_
              refine y_getI dX7_paper_66 fX7_121 (hM.lt (by decide)) (hM.2.1 24 (by decide)) rfl ?_
              refine z_top ((pc : Int)) (by simp [zup, *]) ?_
              refine z_iload_n dX7_paper_69 rfl ?_
              refine y_iastoreJ (pc) dX7_paper_70 (hM.lt (by decide)) (hM.2.1 33 (by decide)) (by omega) (by decide) ?_
              refine z_aload_n dX7_paper_71 rfl ?_
              refine y_getR dX7_paper_72 fX7_37 (hM.lt (by decide)) (hM.2.1 24 (by decide)) rfl (hM.2.2 14) ?_
              refine z_aload_n dX7_paper_75 rfl ?_
              refine y_getI dX7_paper_76 fX7_121 (hM.lt (by decide)) (hM.2.1 24 (by decide)) rfl ?_
              refine z_top ((pc : Int)) (by simp [zup, *]) ?_
              refine z_iload_n dX7_paper_79 rfl ?_
              refine y_iastoreJ (pc) dX7_paper_80 (hM.lt (by decide)) (hM.2.1 34 (by decide)) (by omega) (by decide) ?_
              refine z_aload_n dX7_paper_81 rfl ?_
              refine y_getR dX7_paper_82 fX7_40 (hM.lt (by decide)) (hM.2.1 24 (by decide)) rfl (hM.2.2 15) ?_
              refine z_aload_n dX7_paper_85 rfl ?_
              refine y_getI dX7_paper_86 fX7_121 (hM.lt (by decide)) (hM.2.1 24 (by decide)) rfl ?_
              refine z_top ((pc : Int)) (by simp [zup, *]) ?_
              refine z_iload_n dX7_paper_89 rfl ?_
              refine y_iastoreJ (pc) dX7_paper_90 (hM.lt (by decide)) (hM.2.1 35 (by decide)) (by omega) (by decide) ?_
              refine z_aload_n dX7_paper_91 rfl ?_
              refine y_getR dX7_paper_92 fX7_43 (hM.lt (by decide)) (hM.2.1 24 (by decide)) rfl (hM.2.2 16) ?_
              refine z_aload_n dX7_paper_95 rfl ?_
              refine y_getI dX7_paper_96 fX7_121 (hM.lt (by decide)) (hM.2.1 24 (by decide)) rfl ?_
              refine z_top ((pc : Int)) (by simp [zup, *]) ?_
              refine z_aload_n dX7_paper_99 rfl ?_
              refine y_getI dX7_paper_100 fX7_100 (hM.lt (by decide)) (hM.2.1 24 (by decide)) rfl ?_
              refine z_top (t) (by simp [zup, *]) ?_
              refine y_iastoreJ (pc) dX7_paper_103 (hM.lt (by decide)) (hM.2.1 36 (by decide)) (by omega) (by decide) ?_
              refine z_aload_n dX7_paper_104 rfl ?_
              refine y_getR dX7_paper_105 fX7_46 (hM.lt (by decide)) (hM.2.1 24 (by decide)) rfl (hM.2.2 17) ?_
              refine z_aload_n dX7_paper_108 rfl ?_
              refine y_getI dX7_paper_109 fX7_121 (hM.lt (by decide)) (hM.2.1 24 (by decide)) rfl ?_
              refine z_top ((pc : Int)) (by simp [zup, *]) ?_
              refine z_iconst dX7_paper_112 ?_
              refine y_iastoreJ (pc) dX7_paper_113 (hM.lt (by decide)) (hM.2.1 37 (by decide)) (by omega) (by decide) ?_
              refine z_aload_n dX7_paper_114 rfl ?_
              refine z_dup dX7_paper_115 rfl ?_
              refine y_getI dX7_paper_116 fX7_121 (hM.lt (by decide)) (hM.2.1 24 (by decide)) rfl ?_
              refine z_top ((pc : Int)) (by simp [zup, *]) ?_
              refine z_iconst dX7_paper_119 ?_
              refine z_iadd dX7_paper_120 ?_
              refine y_putI dX7_paper_121 fX7_121 (hM.lt (by decide)) (hM.2.1 24 (by decide)) rfl ?_
              refine z_aload_n dX7_paper_124 rfl ?_
              refine y_getI dX7_paper_125 fX7_121 (hM.lt (by decide)) (hM.2.1 24 (by decide)) rfl ?_
              refine z_top ((pc : Int) + 1) (by simp [zup, *]) ?_
              refine z_iconst dX7_paper_128 ?_
              refine z_isub dX7_paper_129 ?_
              refine y_ireturn dX7_paper_130 rfl ?_
              rw [Int.add_sub_cancel]
              first | (rw [if_pos (by omega), if_pos (by omega)]; exact yR_rfl) | (rw [if_neg (by omega), if_neg (by omega)]; exact yR_rfl)
            · refine z_iconst dX7_paper_59 ?_
              refine y_ireturn dX7_paper_60 rfl ?_
              first | (rw [if_pos (by omega), if_pos (by omega)]; exact yR_rfl) | (rw [if_neg (by omega), if_neg (by omega)]; exact yR_rfl)
set_option maxHeartbeats 4000000 in
set_option maxRecDepth 100000 in
theorem c_X7_back (hM : yM n sh P) {t : Int} (ht : I 24 0 = t) (ht3 : 0 ≤ t ∧ t ≤ 300) {pc : Nat} (hpc : I 24 3 = (pc : Int)) (hpc2 : pc ≤ 200) (hpb : ∀ i, i < pc → -1 ≤ I 37 i ∧ I 37 i ≤ 300) {p : Int} (hp : (-2147483648 ≤ p ∧ p ≤ 2147483647)) : yC l E jX7_back (rm 1 22) [.ref (zb E + 24), .int (iI p)] n sh I P (yR (some (.int (iI (bI ((0 ≤ p ∧ p < (pc : Int)) ∧ I 37 p.toNat = -1))))) n sh (if ((0 ≤ p ∧ p < (pc : Int)) ∧ I 37 p.toNat = -1) then zup I 37 p.toNat t else I) P) := by
  refine yC_of (by decide) (Nat.le_of_ble_eq_true rfl) ?_
  refine z_iload_n dX7_back_0 rfl ?_
  refine z_iconst dX7_back_1 ?_
  refine z_aload_n dX7_back_2 rfl ?_
  refine y_getI dX7_back_3 fX7_121 (hM.lt (by decide)) (hM.2.1 24 (by decide)) rfl ?_
  refine z_iconst dX7_back_6 ?_
  refine z_isub dX7_back_7 ?_
  refine y_callS dX7_back_8 kX7_96 (c_X7_in hp (by omega) (by omega)) rfl rfl (Nat.le_of_ble_eq_true rfl) ⟨⟨by decide, by decide⟩, by decide, by decide⟩ (fun v8 n8 sh8 I8 P8 hp8 => ?_)
  obtain ⟨rfl, rfl, rfl, rfl, rfl⟩ := hp8
  refine z_if_eq 24 dX7_back_11 (by decide) (bI_rng _) (fun c_11 => ?_) (fun c_11 => ?_)
  · have c_11 := bI_0 c_11
    refine z_iconst dX7_back_24 ?_
    refine y_zreturn dX7_back_25 rfl (by decide) ?_
    first | (rw [bI_t (by omega), if_pos (by omega)]; exact yR_rfl) | (rw [bI_f (by omega), if_neg (by omega)]; exact yR_rfl)
  · have c_11 := bI_1 c_11
    obtain ⟨p0, rfl⟩ : ∃ p0 : Nat, p = p0 := ⟨p.toNat, by omega⟩
    rw [Int.toNat_natCast]
    have hj0 := hpb p0 (by omega)
    refine z_aload_n dX7_back_14 rfl ?_
    refine y_getR dX7_back_15 fX7_46 (hM.lt (by decide)) (hM.2.1 24 (by decide)) rfl (hM.2.2 17) ?_
    refine z_iload_n dX7_back_18 rfl ?_
    refine y_ialoadJ (p0) dX7_back_19 (hM.lt (by decide)) (hM.2.1 37 (by decide)) (by omega) (by decide) ?_
    refine z_iconst dX7_back_20 ?_
    refine z_icmp_eq 26 dX7_back_21 (by decide) (by omega) (by omega) (fun c_21 => ?_) (fun c_21 => ?_)
    · refine z_aload_n dX7_back_26 rfl ?_
      refine y_getR dX7_back_27 fX7_46 (hM.lt (by decide)) (hM.2.1 24 (by decide)) rfl (hM.2.2 17) ?_
      refine z_iload_n dX7_back_30 rfl ?_
      refine z_aload_n dX7_back_31 rfl ?_
      refine y_getI dX7_back_32 fX7_100 (hM.lt (by decide)) (hM.2.1 24 (by decide)) rfl ?_
      refine z_top (t) (by simp [zup, *]) ?_
      refine y_iastoreJ (p0) dX7_back_35 (hM.lt (by decide)) (hM.2.1 37 (by decide)) (by omega) (by decide) ?_
      refine z_iconst dX7_back_36 ?_
      refine y_zreturn dX7_back_37 rfl (by decide) ?_
      first | (rw [bI_t (by omega), if_pos (by omega)]; exact yR_rfl) | (rw [bI_f (by omega), if_neg (by omega)]; exact yR_rfl)
    · refine z_iconst dX7_back_24 ?_
      refine y_zreturn dX7_back_25 rfl (by decide) ?_
      first | (rw [bI_t (by omega), if_pos (by omega)]; exact yR_rfl) | (rw [bI_f (by omega), if_neg (by omega)]; exact yR_rfl)
set_option maxHeartbeats 4000000 in
set_option maxRecDepth 100000 in
theorem c_X7_book (hM : yM n sh P) {t : Int} (ht : I 24 0 = t) (ht3 : 0 ≤ t ∧ t ≤ 300) {b : Nat} (hb : I 24 4 = (b : Int)) (hb2 : b < 20000) {w m : Nat} (hw : w ≤ 300) (hm : m < 40) {d : Int} : yC l E jX7_book (rm 0 0) [.ref (zb E + 24), .int (iI w), .int (iI m), .int (iI d)] n sh I P (yR (none) n sh (mBo I b t w m d) P) := by
  refine yC_of (by decide) (Nat.le_of_ble_eq_true rfl) ?_
  refine z_aload_n dX7_book_0 rfl ?_
  refine y_getR dX7_book_1 fX7_52 (hM.lt (by decide)) (hM.2.1 24 (by decide)) rfl (hM.2.2 19) ?_
  refine z_aload_n dX7_book_4 rfl ?_
  refine y_getI dX7_book_5 fX7_158 (hM.lt (by decide)) (hM.2.1 24 (by decide)) rfl ?_
  refine z_top ((b : Int)) (by simp [zup, *]) ?_
  refine z_aload_n dX7_book_8 rfl ?_
  refine y_getI dX7_book_9 fX7_100 (hM.lt (by decide)) (hM.2.1 24 (by decide)) rfl ?_
  refine z_top (t) (by simp [zup, *]) ?_
  refine y_iastoreJ (b) dX7_book_12 (hM.lt (by decide)) (hM.2.1 39 (by decide)) (by omega) (by decide) ?_
  refine z_aload_n dX7_book_13 rfl ?_
  refine y_getR dX7_book_14 fX7_55 (hM.lt (by decide)) (hM.2.1 24 (by decide)) rfl (hM.2.2 20) ?_
  refine z_aload_n dX7_book_17 rfl ?_
  refine y_getI dX7_book_18 fX7_158 (hM.lt (by decide)) (hM.2.1 24 (by decide)) rfl ?_
  refine z_top ((b : Int)) (by simp [zup, *]) ?_
  refine z_iload_n dX7_book_21 rfl ?_
  refine y_iastoreJ (b) dX7_book_22 (hM.lt (by decide)) (hM.2.1 40 (by decide)) (by omega) (by decide) ?_
  refine z_aload_n dX7_book_23 rfl ?_
  refine y_getR dX7_book_24 fX7_58 (hM.lt (by decide)) (hM.2.1 24 (by decide)) rfl (hM.2.2 21) ?_
  refine z_aload_n dX7_book_27 rfl ?_
  refine y_getI dX7_book_28 fX7_158 (hM.lt (by decide)) (hM.2.1 24 (by decide)) rfl ?_
  refine z_top ((b : Int)) (by simp [zup, *]) ?_
  refine z_iload_n dX7_book_31 rfl ?_
  refine y_iastoreJ (b) dX7_book_32 (hM.lt (by decide)) (hM.2.1 41 (by decide)) (by omega) (by decide) ?_
  refine z_aload_n dX7_book_33 rfl ?_
  refine y_getR dX7_book_34 fX7_61 (hM.lt (by decide)) (hM.2.1 24 (by decide)) rfl (hM.2.2 22) ?_
  refine z_aload_n dX7_book_37 rfl ?_
  refine y_getI dX7_book_38 fX7_158 (hM.lt (by decide)) (hM.2.1 24 (by decide)) rfl ?_
  refine z_top ((b : Int)) (by simp [zup, *]) ?_
  refine z_iload_n dX7_book_41 rfl ?_
  refine y_iastoreJ (b) dX7_book_42 (hM.lt (by decide)) (hM.2.1 42 (by decide)) (by omega) (by decide) ?_
  refine z_aload_n dX7_book_43 rfl ?_
  refine z_dup dX7_book_44 rfl ?_
  refine y_getI dX7_book_45 fX7_158 (hM.lt (by decide)) (hM.2.1 24 (by decide)) rfl ?_
  refine z_top ((b : Int)) (by simp [zup, *]) ?_
  refine z_iconst dX7_book_48 ?_
  refine z_iadd dX7_book_49 ?_
  refine y_putI dX7_book_50 fX7_158 (hM.lt (by decide)) (hM.2.1 24 (by decide)) rfl ?_
  refine z_aload_n dX7_book_53 rfl ?_
  refine y_getR dX7_book_54 fX7_49 (hM.lt (by decide)) (hM.2.1 24 (by decide)) rfl (hM.2.2 18) ?_
  refine z_sipush dX7_book_57 rfl ?_
  refine z_iload_n dX7_book_60 rfl ?_
  refine z_imul dX7_book_61 ?_
  refine z_iload_n dX7_book_62 rfl ?_
  refine z_iadd dX7_book_63 ?_
  refine z_dup2 dX7_book_64 rfl rfl ?_
  refine y_ialoadJ (301 * m + w) dX7_book_65 (hM.lt (by decide)) (hM.2.1 38 (by decide)) (by omega) (by decide) ?_
  refine z_top (I 38 (301 * m + w)) (by simp [zup]) ?_
  refine z_iload_n dX7_book_66 rfl ?_
  refine z_iadd dX7_book_67 ?_
  refine y_iastoreJ (301 * m + w) dX7_book_68 (hM.lt (by decide)) (hM.2.1 38 (by decide)) (by omega) (by decide) ?_
  exact y_return dX7_book_69 rfl (yR_rfl)
set_option maxHeartbeats 4000000 in
set_option maxRecDepth 100000 in
theorem c_X7_table (hM : yM n sh P) {y a s : Int} (hy : (-2147483648 ≤ y ∧ y ≤ 2147483647)) (ha : (-2147483648 ≤ a ∧ a ≤ 2147483647)) (hs : (-2147483648 ≤ s ∧ s ≤ 2147483647)) : yC l E jX7_table (rm 1 22) [.ref (zb E + 24), .int (iI y), .int (iI a), .int (iI s)] n sh I P (yR (some (.int (iI (bI ((0 ≤ y ∧ y ≤ 99) ∧ (0 ≤ a ∧ a ≤ 1000) ∧ (0 ≤ s ∧ s ≤ 365)))))) n sh (if ((0 ≤ y ∧ y ≤ 99) ∧ (0 ≤ a ∧ a ≤ 1000) ∧ (0 ≤ s ∧ s ≤ 365)) then zup (zup I 43 y.toNat a) 44 y.toNat s else I) P) := by
  refine yC_of (by decide) (Nat.le_of_ble_eq_true rfl) ?_
  refine z_iload_n dX7_table_0 rfl ?_
  refine z_iconst dX7_table_1 ?_
  refine z_bipush dX7_table_2 rfl ?_
  refine y_callS dX7_table_4 kX7_96 (c_X7_in hy (by omega) (by omega)) rfl rfl (Nat.le_of_ble_eq_true rfl) ⟨⟨by decide, by decide⟩, by decide, by decide⟩ (fun v4 n4 sh4 I4 P4 hp4 => ?_)
  obtain ⟨rfl, rfl, rfl, rfl, rfl⟩ := hp4
  refine z_if_eq 32 dX7_table_7 (by decide) (bI_rng _) (fun c_7 => ?_) (fun c_7 => ?_)
  · have c_7 := bI_0 c_7
    refine z_iconst dX7_table_32 ?_
    refine y_zreturn dX7_table_33 rfl (by decide) ?_
    first | (rw [bI_t (by omega), if_pos (by omega)]; exact yR_rfl) | (rw [bI_f (by omega), if_neg (by omega)]; exact yR_rfl)
  · have c_7 := bI_1 c_7
    refine z_iload_n dX7_table_10 rfl ?_
    refine z_iconst dX7_table_11 ?_
    refine z_sipush dX7_table_12 rfl ?_
    refine y_callS dX7_table_15 kX7_96 (c_X7_in ha (by omega) (by omega)) rfl rfl (Nat.le_of_ble_eq_true rfl) ⟨⟨by decide, by decide⟩, by decide, by decide⟩ (fun v15 n15 sh15 I15 P15 hp15 => ?_)
    obtain ⟨rfl, rfl, rfl, rfl, rfl⟩ := hp15
    refine z_if_eq 32 dX7_table_18 (by decide) (bI_rng _) (fun c_18 => ?_) (fun c_18 => ?_)
    · have c_18 := bI_0 c_18
      refine z_iconst dX7_table_32 ?_
      refine y_zreturn dX7_table_33 rfl (by decide) ?_
      first | (rw [bI_t (by omega), if_pos (by omega)]; exact yR_rfl) | (rw [bI_f (by omega), if_neg (by omega)]; exact yR_rfl)
    · have c_18 := bI_1 c_18
      refine z_iload_n dX7_table_21 rfl ?_
      refine z_iconst dX7_table_22 ?_
      refine z_sipush dX7_table_23 rfl ?_
      refine y_callS dX7_table_26 kX7_96 (c_X7_in hs (by omega) (by omega)) rfl rfl (Nat.le_of_ble_eq_true rfl) ⟨⟨by decide, by decide⟩, by decide, by decide⟩ (fun v26 n26 sh26 I26 P26 hp26 => ?_)
      obtain ⟨rfl, rfl, rfl, rfl, rfl⟩ := hp26
      refine z_if_ne 34 dX7_table_29 (by decide) (bI_rng _) (fun c_29 => ?_) (fun c_29 => ?_)
      · have c_29 := bI_1 c_29
        obtain ⟨y0, rfl⟩ : ∃ y0 : Nat, y = y0 := ⟨y.toNat, by omega⟩
        rw [Int.toNat_natCast]
        refine z_aload_n dX7_table_34 rfl ?_
        refine y_getR dX7_table_35 fX7_64 (hM.lt (by decide)) (hM.2.1 24 (by decide)) rfl (hM.2.2 23) ?_
        refine z_iload_n dX7_table_38 rfl ?_
        refine z_iload_n dX7_table_39 rfl ?_
        refine y_iastoreJ (y0) dX7_table_40 (hM.lt (by decide)) (hM.2.1 43 (by decide)) (by omega) (by decide) ?_
        refine z_aload_n dX7_table_41 rfl ?_
        refine y_getR dX7_table_42 fX7_67 (hM.lt (by decide)) (hM.2.1 24 (by decide)) rfl (hM.2.2 24) ?_
        refine z_iload_n dX7_table_45 rfl ?_
        refine z_iload_n dX7_table_46 rfl ?_
        refine y_iastoreJ (y0) dX7_table_47 (hM.lt (by decide)) (hM.2.1 44 (by decide)) (by omega) (by decide) ?_
        refine z_iconst dX7_table_48 ?_
        refine y_zreturn dX7_table_49 rfl (by decide) ?_
        first | (rw [bI_t (by omega), if_pos (by omega)]; exact yR_rfl) | (rw [bI_f (by omega), if_neg (by omega)]; exact yR_rfl)
      · have c_29 := bI_0 c_29
        refine z_iconst dX7_table_32 ?_
        refine y_zreturn dX7_table_33 rfl (by decide) ?_
        first | (rw [bI_t (by omega), if_pos (by omega)]; exact yR_rfl) | (rw [bI_f (by omega), if_neg (by omega)]; exact yR_rfl)
set_option maxHeartbeats 4000000 in
set_option maxRecDepth 100000 in
theorem c_X7_force (hM : yM n sh P) {t : Int} (ht : I 24 0 = t) (ht3 : 0 ≤ t ∧ t ≤ 300) {rc : Nat} (hrc : I 24 2 = (rc : Int)) (hrc2 : rc ≤ 200) (hR : yRl I 29 rc) {k w q : Int} (hk : (-2147483648 ≤ k ∧ k ≤ 2147483647)) (hw : (-2147483648 ≤ w ∧ w ≤ 2147483647)) (hq : (-2147483648 ≤ q ∧ q ≤ 2147483647)) : yC l E jX7_force (rm 2 47) [.ref (zb E + 24), .int (iI k), .int (iI w), .int (iI q)] n sh I P (yR (some (.int (iI (if ((0 ≤ k ∧ k ≤ 6) ∧ (0 ≤ w ∧ w ≤ 1000) ∧ (0 ≤ q ∧ q ≤ t)) then (sFI I 29 k.toNat w q rc).2 else -1)))) n sh (I) P) := by
  refine yC_of (by decide) (Nat.le_of_ble_eq_true rfl) ?_
  refine z_iload_n dX7_force_0 rfl ?_
  refine z_iconst dX7_force_1 ?_
  refine z_bipush dX7_force_2 rfl ?_
  refine y_callS dX7_force_4 kX7_96 (c_X7_in hk (by omega) (by omega)) rfl rfl (Nat.le_of_ble_eq_true rfl) ⟨⟨by decide, by decide⟩, by decide, by decide⟩ (fun v4 n4 sh4 I4 P4 hp4 => ?_)
  obtain ⟨rfl, rfl, rfl, rfl, rfl⟩ := hp4
  refine z_if_eq 43 dX7_force_7 (by decide) (bI_rng _) (fun c_7 => ?_) (fun c_7 => ?_)
  · have c_7 := bI_0 c_7
    refine z_iconst dX7_force_43 ?_
    refine y_ireturn dX7_force_44 rfl ?_
    first | (rw [if_pos (by omega)]; exact yR_rfl) | (rw [if_neg (by omega)]; exact yR_rfl)
  · have c_7 := bI_1 c_7
    refine z_iload_n dX7_force_10 rfl ?_
    refine z_iconst dX7_force_11 ?_
    refine z_sipush dX7_force_12 rfl ?_
    refine y_callS dX7_force_15 kX7_96 (c_X7_in hw (by omega) (by omega)) rfl rfl (Nat.le_of_ble_eq_true rfl) ⟨⟨by decide, by decide⟩, by decide, by decide⟩ (fun v15 n15 sh15 I15 P15 hp15 => ?_)
    obtain ⟨rfl, rfl, rfl, rfl, rfl⟩ := hp15
    refine z_if_eq 43 dX7_force_18 (by decide) (bI_rng _) (fun c_18 => ?_) (fun c_18 => ?_)
    · have c_18 := bI_0 c_18
      refine z_iconst dX7_force_43 ?_
      refine y_ireturn dX7_force_44 rfl ?_
      first | (rw [if_pos (by omega)]; exact yR_rfl) | (rw [if_neg (by omega)]; exact yR_rfl)
    · have c_18 := bI_1 c_18
      refine z_aload_n dX7_force_21 rfl ?_
      refine z_iload_n dX7_force_22 rfl ?_
      refine y_callV dX7_force_23 kX7_164 (c_X7_isWeek hM (by omega) (by omega)) (hM.lt (by decide)) (hM.2.1 24 (by decide)) rfl rfl rfl (Nat.le_of_ble_eq_true rfl) ⟨⟨by decide, by decide⟩, by decide, by decide⟩ (fun v23 n23 sh23 I23 P23 hp23 => ?_)
      obtain ⟨rfl, rfl, rfl, rfl, rfl⟩ := hp23
      refine z_if_eq 43 dX7_force_26 (by decide) (bI_rng _) (fun c_26 => ?_) (fun c_26 => ?_)
      · have c_26 := bI_0 c_26
        refine z_iconst dX7_force_43 ?_
        refine y_ireturn dX7_force_44 rfl ?_
        first | (rw [if_pos (by omega)]; exact yR_rfl) | (rw [if_neg (by omega)]; exact yR_rfl)
      · have c_26 := bI_1 c_26
        obtain ⟨k0, rfl⟩ : ∃ k0 : Nat, k = k0 := ⟨k.toNat, by omega⟩
        rw [Int.toNat_natCast]
        refine z_aload_n dX7_force_29 rfl ?_
        refine z_iload_n dX7_force_30 rfl ?_
        refine z_iload_n dX7_force_31 rfl ?_
        refine z_iload_n dX7_force_32 rfl ?_
        refine z_aload_n dX7_force_33 rfl ?_
        refine y_getI dX7_force_34 fX7_137 (hM.lt (by decide)) (hM.2.1 24 (by decide)) rfl ?_
        refine z_top ((rc : Int)) (hrc) ?_
        refine y_callV dX7_force_37 kX7_110 (c_X7_inForce hM (by omega) hw hq (by omega) hR) (hM.lt (by decide)) (hM.2.1 24 (by decide)) rfl rfl rfl (Nat.le_of_ble_eq_true rfl) ⟨⟨by decide, by decide⟩, by decide, by decide⟩ (fun v37 n37 sh37 I37 P37 hp37 => ?_)
        obtain ⟨rfl, rfl, rfl, rfl, rfl⟩ := hp37
        refine z_goto 44 dX7_force_40 (by decide) ?_
        refine y_ireturn dX7_force_44 rfl ?_
        first | (rw [if_pos (by omega)]; exact yR_rfl) | (rw [if_neg (by omega)]; exact yR_rfl)
set_option maxHeartbeats 4000000 in
set_option maxRecDepth 100000 in
theorem c_X7_booked (hM : yM n sh P) {mc : Nat} (hmc : I 24 1 = (mc : Int)) (hmc4 : mc ≤ 40) {m w : Int} (hm : (-2147483648 ≤ m ∧ m ≤ 2147483647)) (hw : (-2147483648 ≤ w ∧ w ≤ 2147483647)) : yC l E jX7_booked (rm 2 43) [.ref (zb E + 24), .int (iI m), .int (iI w)] n sh I P (yR (some (.int (iI (if ((0 ≤ m ∧ m < (mc : Int)) ∧ (0 ≤ w ∧ w ≤ 300)) then I 38 (301 * m.toNat + w.toNat) else 0)))) n sh (I) P) := by
  refine yC_of (by decide) (Nat.le_of_ble_eq_true rfl) ?_
  refine z_aload_n dX7_booked_0 rfl ?_
  refine z_iload_n dX7_booked_1 rfl ?_
  refine y_callV dX7_booked_2 kX7_132 (c_X7_isMember hM (by omega) (by omega)) (hM.lt (by decide)) (hM.2.1 24 (by decide)) rfl rfl rfl (Nat.le_of_ble_eq_true rfl) ⟨⟨by decide, by decide⟩, by decide, by decide⟩ (fun v2 n2 sh2 I2 P2 hp2 => ?_)
  obtain ⟨rfl, rfl, rfl, rfl, rfl⟩ := hp2
  refine z_if_eq 34 dX7_booked_5 (by decide) (bI_rng _) (fun c_5 => ?_) (fun c_5 => ?_)
  · have c_5 := bI_0 c_5
    refine z_iconst dX7_booked_34 ?_
    refine y_ireturn dX7_booked_35 rfl ?_
    first | (rw [if_pos (by omega)]; exact yR_rfl) | (rw [if_neg (by omega)]; exact yR_rfl)
  · have c_5 := bI_1 c_5
    refine z_iload_n dX7_booked_8 rfl ?_
    refine z_iconst dX7_booked_9 ?_
    refine z_sipush dX7_booked_10 rfl ?_
    refine y_callS dX7_booked_13 kX7_96 (c_X7_in hw (by omega) (by omega)) rfl rfl (Nat.le_of_ble_eq_true rfl) ⟨⟨by decide, by decide⟩, by decide, by decide⟩ (fun v13 n13 sh13 I13 P13 hp13 => ?_)
    obtain ⟨rfl, rfl, rfl, rfl, rfl⟩ := hp13
    refine z_if_eq 34 dX7_booked_16 (by decide) (bI_rng _) (fun c_16 => ?_) (fun c_16 => ?_)
    · have c_16 := bI_0 c_16
      refine z_iconst dX7_booked_34 ?_
      refine y_ireturn dX7_booked_35 rfl ?_
      first | (rw [if_pos (by omega)]; exact yR_rfl) | (rw [if_neg (by omega)]; exact yR_rfl)
    · have c_16 := bI_1 c_16
      obtain ⟨m0, rfl⟩ : ∃ m0 : Nat, m = m0 := ⟨m.toNat, by omega⟩
      obtain ⟨w0, rfl⟩ : ∃ w0 : Nat, w = w0 := ⟨w.toNat, by omega⟩
      rw [Int.toNat_natCast, Int.toNat_natCast]
      refine z_aload_n dX7_booked_19 rfl ?_
      refine y_getR dX7_booked_20 fX7_49 (hM.lt (by decide)) (hM.2.1 24 (by decide)) rfl (hM.2.2 18) ?_
      refine z_sipush dX7_booked_23 rfl ?_
      refine z_iload_n dX7_booked_26 rfl ?_
      refine z_imul dX7_booked_27 ?_
      refine z_iload_n dX7_booked_28 rfl ?_
      refine z_iadd dX7_booked_29 ?_
      refine y_ialoadJ (301 * m0 + w0) dX7_booked_30 (hM.lt (by decide)) (hM.2.1 38 (by decide)) (by omega) (by decide) ?_
      refine z_goto 35 dX7_booked_31 (by decide) ?_
      refine y_ireturn dX7_booked_35 rfl ?_
      first | (rw [if_pos (by omega)]; exact yR_rfl) | (rw [if_neg (by omega)]; exact yR_rfl)
set_option maxHeartbeats 4000000 in
set_option maxRecDepth 100000 in
theorem c_X7_entry (hM : yM n sh P) {b : Nat} (hb : I 24 4 = (b : Int)) (hb2 : b ≤ 20000) {i a : Int} (hi : (-2147483648 ≤ i ∧ i ≤ 2147483647)) (ha : (-2147483648 ≤ a ∧ a ≤ 2147483647)) : yC l E jX7_entry (rm 1 22) [.ref (zb E + 24), .int (iI i), .int (iI a)] n sh I P (yR (some (.int (iI (if (0 ≤ i ∧ i < (b : Int)) then mEn I i.toNat a else -1000000)))) n sh (I) P) := by
  refine yC_of (by decide) (Nat.le_of_ble_eq_true rfl) ?_
  refine z_iload_n dX7_entry_0 rfl ?_
  refine z_iconst dX7_entry_1 ?_
  refine z_aload_n dX7_entry_2 rfl ?_
  refine y_getI dX7_entry_3 fX7_158 (hM.lt (by decide)) (hM.2.1 24 (by decide)) rfl ?_
  refine z_iconst dX7_entry_6 ?_
  refine z_isub dX7_entry_7 ?_
  refine y_callS dX7_entry_8 kX7_96 (c_X7_in hi (by omega) (by omega)) rfl rfl (Nat.le_of_ble_eq_true rfl) ⟨⟨by decide, by decide⟩, by decide, by decide⟩ (fun v8 n8 sh8 I8 P8 hp8 => ?_)
  obtain ⟨rfl, rfl, rfl, rfl, rfl⟩ := hp8
  refine z_if_ne 17 dX7_entry_11 (by decide) (bI_rng _) (fun c_11 => ?_) (fun c_11 => ?_)
  · have c_11 := bI_1 c_11
    obtain ⟨i0, rfl⟩ : ∃ i0 : Nat, i = i0 := ⟨i.toNat, by omega⟩
    rw [Int.toNat_natCast]
    refine z_iload_n dX7_entry_17 rfl ?_
    rcases (show (a < 0 ∨ 3 < a) ∨ a = 0 ∨ a = 1 ∨ a = 2 ∨ a = 3 by omega) with hsw | hsw | hsw | hsw | hsw
    · refine z_tabOut 76 dX7_entry_18 (by rw [iI_toInt (by omega)]; omega) (by decide) ?_
      refine z_ldc _ dX7_entry_76 qX7_136 ?_
      refine y_ireturn dX7_entry_78 rfl ?_
      rw [if_pos (by omega)]
      simp only [mEn]
      first | (rw [if_pos (by omega)]; exact yR_rfl) | (rw [if_neg (by omega), if_pos (by omega)]; exact yR_rfl) | (rw [if_neg (by omega), if_neg (by omega), if_pos (by omega)]; exact yR_rfl) | (rw [if_neg (by omega), if_neg (by omega), if_neg (by omega), if_pos (by omega)]; exact yR_rfl) | (rw [if_neg (by omega), if_neg (by omega), if_neg (by omega), if_neg (by omega)]; exact yR_rfl)
    · refine z_tabIn 48 0 dX7_entry_18 (by rw [iI_toInt (by omega)]; omega) (by decide) (by decide) rfl (by decide) ?_
      refine z_aload_n dX7_entry_48 rfl ?_
      refine y_getR dX7_entry_49 fX7_52 (hM.lt (by decide)) (hM.2.1 24 (by decide)) rfl (hM.2.2 19) ?_
      refine z_iload_n dX7_entry_52 rfl ?_
      refine y_ialoadJ (i0) dX7_entry_53 (hM.lt (by decide)) (hM.2.1 39 (by decide)) (by omega) (by decide) ?_
      refine y_ireturn dX7_entry_54 rfl ?_
      rw [if_pos (by omega)]
      simp only [mEn]
      first | (rw [if_pos (by omega)]; exact yR_rfl) | (rw [if_neg (by omega), if_pos (by omega)]; exact yR_rfl) | (rw [if_neg (by omega), if_neg (by omega), if_pos (by omega)]; exact yR_rfl) | (rw [if_neg (by omega), if_neg (by omega), if_neg (by omega), if_pos (by omega)]; exact yR_rfl) | (rw [if_neg (by omega), if_neg (by omega), if_neg (by omega), if_neg (by omega)]; exact yR_rfl)
    · refine z_tabIn 55 1 dX7_entry_18 (by rw [iI_toInt (by omega)]; omega) (by decide) (by decide) rfl (by decide) ?_
      refine z_aload_n dX7_entry_55 rfl ?_
      refine y_getR dX7_entry_56 fX7_55 (hM.lt (by decide)) (hM.2.1 24 (by decide)) rfl (hM.2.2 20) ?_
      refine z_iload_n dX7_entry_59 rfl ?_
      refine y_ialoadJ (i0) dX7_entry_60 (hM.lt (by decide)) (hM.2.1 40 (by decide)) (by omega) (by decide) ?_
      refine y_ireturn dX7_entry_61 rfl ?_
      rw [if_pos (by omega)]
      simp only [mEn]
      first | (rw [if_pos (by omega)]; exact yR_rfl) | (rw [if_neg (by omega), if_pos (by omega)]; exact yR_rfl) | (rw [if_neg (by omega), if_neg (by omega), if_pos (by omega)]; exact yR_rfl) | (rw [if_neg (by omega), if_neg (by omega), if_neg (by omega), if_pos (by omega)]; exact yR_rfl) | (rw [if_neg (by omega), if_neg (by omega), if_neg (by omega), if_neg (by omega)]; exact yR_rfl)
    · refine z_tabIn 62 2 dX7_entry_18 (by rw [iI_toInt (by omega)]; omega) (by decide) (by decide) rfl (by decide) ?_
      refine z_aload_n dX7_entry_62 rfl ?_
      refine y_getR dX7_entry_63 fX7_58 (hM.lt (by decide)) (hM.2.1 24 (by decide)) rfl (hM.2.2 21) ?_
      refine z_iload_n dX7_entry_66 rfl ?_
      refine y_ialoadJ (i0) dX7_entry_67 (hM.lt (by decide)) (hM.2.1 41 (by decide)) (by omega) (by decide) ?_
      refine y_ireturn dX7_entry_68 rfl ?_
      rw [if_pos (by omega)]
      simp only [mEn]
      first | (rw [if_pos (by omega)]; exact yR_rfl) | (rw [if_neg (by omega), if_pos (by omega)]; exact yR_rfl) | (rw [if_neg (by omega), if_neg (by omega), if_pos (by omega)]; exact yR_rfl) | (rw [if_neg (by omega), if_neg (by omega), if_neg (by omega), if_pos (by omega)]; exact yR_rfl) | (rw [if_neg (by omega), if_neg (by omega), if_neg (by omega), if_neg (by omega)]; exact yR_rfl)
    · refine z_tabIn 69 3 dX7_entry_18 (by rw [iI_toInt (by omega)]; omega) (by decide) (by decide) rfl (by decide) ?_
      refine z_aload_n dX7_entry_69 rfl ?_
      refine y_getR dX7_entry_70 fX7_61 (hM.lt (by decide)) (hM.2.1 24 (by decide)) rfl (hM.2.2 22) ?_
      refine z_iload_n dX7_entry_73 rfl ?_
      refine y_ialoadJ (i0) dX7_entry_74 (hM.lt (by decide)) (hM.2.1 42 (by decide)) (by omega) (by decide) ?_
      refine y_ireturn dX7_entry_75 rfl ?_
      rw [if_pos (by omega)]
      simp only [mEn]
      first | (rw [if_pos (by omega)]; exact yR_rfl) | (rw [if_neg (by omega), if_pos (by omega)]; exact yR_rfl) | (rw [if_neg (by omega), if_neg (by omega), if_pos (by omega)]; exact yR_rfl) | (rw [if_neg (by omega), if_neg (by omega), if_neg (by omega), if_pos (by omega)]; exact yR_rfl) | (rw [if_neg (by omega), if_neg (by omega), if_neg (by omega), if_neg (by omega)]; exact yR_rfl)
  · have c_11 := bI_0 c_11
    refine z_ldc _ dX7_entry_14 qX7_136 ?_
    refine y_ireturn dX7_entry_16 rfl ?_
    first | (rw [if_pos (by omega)]; exact yR_rfl) | (rw [if_neg (by omega)]; exact yR_rfl)
set_option maxHeartbeats 4000000 in
set_option maxRecDepth 100000 in
theorem c_X7_member (hM : yM n sh P) {mc : Nat} (hmc : I 24 1 = (mc : Int)) (hmc4 : mc ≤ 40) {m a : Int} (hm : (-2147483648 ≤ m ∧ m ≤ 2147483647)) (ha : (-2147483648 ≤ a ∧ a ≤ 2147483647)) : yC l E jX7_member (rm 2 43) [.ref (zb E + 24), .int (iI m), .int (iI a)] n sh I P (yR (some (.int (iI (if (0 ≤ m ∧ m < (mc : Int)) then mMe I m.toNat a else -1)))) n sh (I) P) := by
  refine yC_of (by decide) (Nat.le_of_ble_eq_true rfl) ?_
  refine z_aload_n dX7_member_0 rfl ?_
  refine z_iload_n dX7_member_1 rfl ?_
  refine y_callV dX7_member_2 kX7_132 (c_X7_isMember hM (by omega) (by omega)) (hM.lt (by decide)) (hM.2.1 24 (by decide)) rfl rfl rfl (Nat.le_of_ble_eq_true rfl) ⟨⟨by decide, by decide⟩, by decide, by decide⟩ (fun v2 n2 sh2 I2 P2 hp2 => ?_)
  obtain ⟨rfl, rfl, rfl, rfl, rfl⟩ := hp2
  refine z_if_ne 10 dX7_member_5 (by decide) (bI_rng _) (fun c_5 => ?_) (fun c_5 => ?_)
  · have c_5 := bI_1 c_5
    obtain ⟨m0, rfl⟩ : ∃ m0 : Nat, m = m0 := ⟨m.toNat, by omega⟩
    rw [Int.toNat_natCast]
    refine z_iload_n dX7_member_10 rfl ?_
    rcases (show (a < 0 ∨ 3 < a) ∨ a = 0 ∨ a = 1 ∨ a = 2 ∨ a = 3 by omega) with hsw | hsw | hsw | hsw | hsw
    · refine z_tabOut 67 dX7_member_11 (by rw [iI_toInt (by omega)]; omega) (by decide) ?_
      refine z_iconst dX7_member_67 ?_
      refine y_ireturn dX7_member_68 rfl ?_
      rw [if_pos (by omega)]
      simp only [mMe]
      first | (rw [if_pos (by omega)]; exact yR_rfl) | (rw [if_neg (by omega), if_pos (by omega)]; exact yR_rfl) | (rw [if_neg (by omega), if_neg (by omega), if_pos (by omega)]; exact yR_rfl) | (rw [if_neg (by omega), if_neg (by omega), if_neg (by omega), if_pos (by omega)]; exact yR_rfl) | (rw [if_neg (by omega), if_neg (by omega), if_neg (by omega), if_neg (by omega)]; exact yR_rfl)
    · refine z_tabIn 40 0 dX7_member_11 (by rw [iI_toInt (by omega)]; omega) (by decide) (by decide) rfl (by decide) ?_
      refine z_aload_n dX7_member_40 rfl ?_
      refine y_getR dX7_member_41 fX7_9 (hM.lt (by decide)) (hM.2.1 24 (by decide)) rfl (hM.2.2 5) ?_
      refine z_iload_n dX7_member_44 rfl ?_
      refine y_ialoadJ (m0) dX7_member_45 (hM.lt (by decide)) (hM.2.1 25 (by decide)) (by omega) (by decide) ?_
      refine y_ireturn dX7_member_46 rfl ?_
      rw [if_pos (by omega)]
      simp only [mMe]
      first | (rw [if_pos (by omega)]; exact yR_rfl) | (rw [if_neg (by omega), if_pos (by omega)]; exact yR_rfl) | (rw [if_neg (by omega), if_neg (by omega), if_pos (by omega)]; exact yR_rfl) | (rw [if_neg (by omega), if_neg (by omega), if_neg (by omega), if_pos (by omega)]; exact yR_rfl) | (rw [if_neg (by omega), if_neg (by omega), if_neg (by omega), if_neg (by omega)]; exact yR_rfl)
    · refine z_tabIn 47 1 dX7_member_11 (by rw [iI_toInt (by omega)]; omega) (by decide) (by decide) rfl (by decide) ?_
      refine z_aload_n dX7_member_47 rfl ?_
      refine y_getR dX7_member_48 fX7_13 (hM.lt (by decide)) (hM.2.1 24 (by decide)) rfl (hM.2.2 6) ?_
      refine z_iload_n dX7_member_51 rfl ?_
      refine y_ialoadJ (m0) dX7_member_52 (hM.lt (by decide)) (hM.2.1 26 (by decide)) (by omega) (by decide) ?_
      refine y_ireturn dX7_member_53 rfl ?_
      rw [if_pos (by omega)]
      simp only [mMe]
      first | (rw [if_pos (by omega)]; exact yR_rfl) | (rw [if_neg (by omega), if_pos (by omega)]; exact yR_rfl) | (rw [if_neg (by omega), if_neg (by omega), if_pos (by omega)]; exact yR_rfl) | (rw [if_neg (by omega), if_neg (by omega), if_neg (by omega), if_pos (by omega)]; exact yR_rfl) | (rw [if_neg (by omega), if_neg (by omega), if_neg (by omega), if_neg (by omega)]; exact yR_rfl)
    · refine z_tabIn 54 2 dX7_member_11 (by rw [iI_toInt (by omega)]; omega) (by decide) (by decide) rfl (by decide) ?_
      refine z_aload_n dX7_member_54 rfl ?_
      refine y_getR dX7_member_55 fX7_16 (hM.lt (by decide)) (hM.2.1 24 (by decide)) rfl (hM.2.2 7) ?_
      refine z_iload_n dX7_member_58 rfl ?_
      refine y_ialoadJ (m0) dX7_member_59 (hM.lt (by decide)) (hM.2.1 27 (by decide)) (by omega) (by decide) ?_
      refine y_ireturn dX7_member_60 rfl ?_
      rw [if_pos (by omega)]
      simp only [mMe]
      first | (rw [if_pos (by omega)]; exact yR_rfl) | (rw [if_neg (by omega), if_pos (by omega)]; exact yR_rfl) | (rw [if_neg (by omega), if_neg (by omega), if_pos (by omega)]; exact yR_rfl) | (rw [if_neg (by omega), if_neg (by omega), if_neg (by omega), if_pos (by omega)]; exact yR_rfl) | (rw [if_neg (by omega), if_neg (by omega), if_neg (by omega), if_neg (by omega)]; exact yR_rfl)
    · refine z_tabIn 61 3 dX7_member_11 (by rw [iI_toInt (by omega)]; omega) (by decide) (by decide) rfl (by decide) ?_
      refine z_aload_n dX7_member_61 rfl ?_
      refine z_iload_n dX7_member_62 rfl ?_
      refine y_callV dX7_member_63 kX7_177 (c_X7_paidBy hM (by omega)) (hM.lt (by decide)) (hM.2.1 24 (by decide)) rfl rfl rfl (Nat.le_of_ble_eq_true rfl) ⟨⟨by decide, by decide⟩, by decide, by decide⟩ (fun v63 n63 sh63 I63 P63 hp63 => ?_)
      obtain ⟨rfl, rfl, rfl, rfl, rfl⟩ := hp63
      refine y_ireturn dX7_member_66 rfl ?_
      rw [if_pos (by omega)]
      simp only [mMe]
      first | (rw [if_pos (by omega)]; exact yR_rfl) | (rw [if_neg (by omega), if_pos (by omega)]; exact yR_rfl) | (rw [if_neg (by omega), if_neg (by omega), if_pos (by omega)]; exact yR_rfl) | (rw [if_neg (by omega), if_neg (by omega), if_neg (by omega), if_pos (by omega)]; exact yR_rfl) | (rw [if_neg (by omega), if_neg (by omega), if_neg (by omega), if_neg (by omega)]; exact yR_rfl)
  · have c_5 := bI_0 c_5
    refine z_iconst dX7_member_8 ?_
    refine y_ireturn dX7_member_9 rfl ?_
    first | (rw [if_pos (by omega)]; exact yR_rfl) | (rw [if_neg (by omega)]; exact yR_rfl)
set_option maxHeartbeats 4000000 in
set_option maxRecDepth 100000 in
theorem c_X7_told (hM : yM n sh P) {pc : Nat} (hpc : I 24 3 = (pc : Int)) (hpc2 : pc ≤ 200) {p a : Int} (hp : (-2147483648 ≤ p ∧ p ≤ 2147483647)) (ha : (-2147483648 ≤ a ∧ a ≤ 2147483647)) : yC l E jX7_told (rm 1 22) [.ref (zb E + 24), .int (iI p), .int (iI a)] n sh I P (yR (some (.int (iI (if (0 ≤ p ∧ p < (pc : Int)) then mTo I p.toNat a else -1)))) n sh (I) P) := by
  refine yC_of (by decide) (Nat.le_of_ble_eq_true rfl) ?_
  refine z_iload_n dX7_told_0 rfl ?_
  refine z_iconst dX7_told_1 ?_
  refine z_aload_n dX7_told_2 rfl ?_
  refine y_getI dX7_told_3 fX7_121 (hM.lt (by decide)) (hM.2.1 24 (by decide)) rfl ?_
  refine z_iconst dX7_told_6 ?_
  refine z_isub dX7_told_7 ?_
  refine y_callS dX7_told_8 kX7_96 (c_X7_in hp (by omega) (by omega)) rfl rfl (Nat.le_of_ble_eq_true rfl) ⟨⟨by decide, by decide⟩, by decide, by decide⟩ (fun v8 n8 sh8 I8 P8 hp8 => ?_)
  obtain ⟨rfl, rfl, rfl, rfl, rfl⟩ := hp8
  refine z_if_ne 16 dX7_told_11 (by decide) (bI_rng _) (fun c_11 => ?_) (fun c_11 => ?_)
  · have c_11 := bI_1 c_11
    obtain ⟨p0, rfl⟩ : ∃ p0 : Nat, p = p0 := ⟨p.toNat, by omega⟩
    rw [Int.toNat_natCast]
    refine z_iload_n dX7_told_16 rfl ?_
    rcases (show (a < 0 ∨ 4 < a) ∨ a = 0 ∨ a = 1 ∨ a = 2 ∨ a = 3 ∨ a = 4 by omega) with hsw | hsw | hsw | hsw | hsw | hsw
    · refine z_tabOut 87 dX7_told_17 (by rw [iI_toInt (by omega)]; omega) (by decide) ?_
      refine z_iconst dX7_told_87 ?_
      refine y_ireturn dX7_told_88 rfl ?_
      rw [if_pos (by omega)]
      simp only [mTo]
      first | (rw [if_pos (by omega)]; exact yR_rfl) | (rw [if_neg (by omega), if_pos (by omega)]; exact yR_rfl) | (rw [if_neg (by omega), if_neg (by omega), if_pos (by omega)]; exact yR_rfl) | (rw [if_neg (by omega), if_neg (by omega), if_neg (by omega), if_pos (by omega)]; exact yR_rfl) | (rw [if_neg (by omega), if_neg (by omega), if_neg (by omega), if_neg (by omega), if_pos (by omega)]; exact yR_rfl) | (rw [if_neg (by omega), if_neg (by omega), if_neg (by omega), if_neg (by omega), if_neg (by omega)]; exact yR_rfl)
    · refine z_tabIn 52 0 dX7_told_17 (by rw [iI_toInt (by omega)]; omega) (by decide) (by decide) rfl (by decide) ?_
      refine z_aload_n dX7_told_52 rfl ?_
      refine y_getR dX7_told_53 fX7_34 (hM.lt (by decide)) (hM.2.1 24 (by decide)) rfl (hM.2.2 13) ?_
      refine z_iload_n dX7_told_56 rfl ?_
      refine y_ialoadJ (p0) dX7_told_57 (hM.lt (by decide)) (hM.2.1 33 (by decide)) (by omega) (by decide) ?_
      refine y_ireturn dX7_told_58 rfl ?_
      rw [if_pos (by omega)]
      simp only [mTo]
      first | (rw [if_pos (by omega)]; exact yR_rfl) | (rw [if_neg (by omega), if_pos (by omega)]; exact yR_rfl) | (rw [if_neg (by omega), if_neg (by omega), if_pos (by omega)]; exact yR_rfl) | (rw [if_neg (by omega), if_neg (by omega), if_neg (by omega), if_pos (by omega)]; exact yR_rfl) | (rw [if_neg (by omega), if_neg (by omega), if_neg (by omega), if_neg (by omega), if_pos (by omega)]; exact yR_rfl) | (rw [if_neg (by omega), if_neg (by omega), if_neg (by omega), if_neg (by omega), if_neg (by omega)]; exact yR_rfl)
    · refine z_tabIn 59 1 dX7_told_17 (by rw [iI_toInt (by omega)]; omega) (by decide) (by decide) rfl (by decide) ?_
      refine z_aload_n dX7_told_59 rfl ?_
      refine y_getR dX7_told_60 fX7_37 (hM.lt (by decide)) (hM.2.1 24 (by decide)) rfl (hM.2.2 14) ?_
      refine z_iload_n dX7_told_63 rfl ?_
      refine y_ialoadJ (p0) dX7_told_64 (hM.lt (by decide)) (hM.2.1 34 (by decide)) (by omega) (by decide) ?_
      refine y_ireturn dX7_told_65 rfl ?_
      rw [if_pos (by omega)]
      simp only [mTo]
      first | (rw [if_pos (by omega)]; exact yR_rfl) | (rw [if_neg (by omega), if_pos (by omega)]; exact yR_rfl) | (rw [if_neg (by omega), if_neg (by omega), if_pos (by omega)]; exact yR_rfl) | (rw [if_neg (by omega), if_neg (by omega), if_neg (by omega), if_pos (by omega)]; exact yR_rfl) | (rw [if_neg (by omega), if_neg (by omega), if_neg (by omega), if_neg (by omega), if_pos (by omega)]; exact yR_rfl) | (rw [if_neg (by omega), if_neg (by omega), if_neg (by omega), if_neg (by omega), if_neg (by omega)]; exact yR_rfl)
    · refine z_tabIn 66 2 dX7_told_17 (by rw [iI_toInt (by omega)]; omega) (by decide) (by decide) rfl (by decide) ?_
      refine z_aload_n dX7_told_66 rfl ?_
      refine y_getR dX7_told_67 fX7_40 (hM.lt (by decide)) (hM.2.1 24 (by decide)) rfl (hM.2.2 15) ?_
      refine z_iload_n dX7_told_70 rfl ?_
      refine y_ialoadJ (p0) dX7_told_71 (hM.lt (by decide)) (hM.2.1 35 (by decide)) (by omega) (by decide) ?_
      refine y_ireturn dX7_told_72 rfl ?_
      rw [if_pos (by omega)]
      simp only [mTo]
      first | (rw [if_pos (by omega)]; exact yR_rfl) | (rw [if_neg (by omega), if_pos (by omega)]; exact yR_rfl) | (rw [if_neg (by omega), if_neg (by omega), if_pos (by omega)]; exact yR_rfl) | (rw [if_neg (by omega), if_neg (by omega), if_neg (by omega), if_pos (by omega)]; exact yR_rfl) | (rw [if_neg (by omega), if_neg (by omega), if_neg (by omega), if_neg (by omega), if_pos (by omega)]; exact yR_rfl) | (rw [if_neg (by omega), if_neg (by omega), if_neg (by omega), if_neg (by omega), if_neg (by omega)]; exact yR_rfl)
    · refine z_tabIn 73 3 dX7_told_17 (by rw [iI_toInt (by omega)]; omega) (by decide) (by decide) rfl (by decide) ?_
      refine z_aload_n dX7_told_73 rfl ?_
      refine y_getR dX7_told_74 fX7_43 (hM.lt (by decide)) (hM.2.1 24 (by decide)) rfl (hM.2.2 16) ?_
      refine z_iload_n dX7_told_77 rfl ?_
      refine y_ialoadJ (p0) dX7_told_78 (hM.lt (by decide)) (hM.2.1 36 (by decide)) (by omega) (by decide) ?_
      refine y_ireturn dX7_told_79 rfl ?_
      rw [if_pos (by omega)]
      simp only [mTo]
      first | (rw [if_pos (by omega)]; exact yR_rfl) | (rw [if_neg (by omega), if_pos (by omega)]; exact yR_rfl) | (rw [if_neg (by omega), if_neg (by omega), if_pos (by omega)]; exact yR_rfl) | (rw [if_neg (by omega), if_neg (by omega), if_neg (by omega), if_pos (by omega)]; exact yR_rfl) | (rw [if_neg (by omega), if_neg (by omega), if_neg (by omega), if_neg (by omega), if_pos (by omega)]; exact yR_rfl) | (rw [if_neg (by omega), if_neg (by omega), if_neg (by omega), if_neg (by omega), if_neg (by omega)]; exact yR_rfl)
    · refine z_tabIn 80 4 dX7_told_17 (by rw [iI_toInt (by omega)]; omega) (by decide) (by decide) rfl (by decide) ?_
      refine z_aload_n dX7_told_80 rfl ?_
      refine y_getR dX7_told_81 fX7_46 (hM.lt (by decide)) (hM.2.1 24 (by decide)) rfl (hM.2.2 17) ?_
      refine z_iload_n dX7_told_84 rfl ?_
      refine y_ialoadJ (p0) dX7_told_85 (hM.lt (by decide)) (hM.2.1 37 (by decide)) (by omega) (by decide) ?_
      refine y_ireturn dX7_told_86 rfl ?_
      rw [if_pos (by omega)]
      simp only [mTo]
      first | (rw [if_pos (by omega)]; exact yR_rfl) | (rw [if_neg (by omega), if_pos (by omega)]; exact yR_rfl) | (rw [if_neg (by omega), if_neg (by omega), if_pos (by omega)]; exact yR_rfl) | (rw [if_neg (by omega), if_neg (by omega), if_neg (by omega), if_pos (by omega)]; exact yR_rfl) | (rw [if_neg (by omega), if_neg (by omega), if_neg (by omega), if_neg (by omega), if_pos (by omega)]; exact yR_rfl) | (rw [if_neg (by omega), if_neg (by omega), if_neg (by omega), if_neg (by omega), if_neg (by omega)]; exact yR_rfl)
  · have c_11 := bI_0 c_11
    refine z_iconst dX7_told_14 ?_
    refine y_ireturn dX7_told_15 rfl ?_
    first | (rw [if_pos (by omega)]; exact yR_rfl) | (rw [if_neg (by omega)]; exact yR_rfl)
end MP
