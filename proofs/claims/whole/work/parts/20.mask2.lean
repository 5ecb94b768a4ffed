theorem mWr_ne {I : Nat → Nat → Int} {r : Nat} {k f v t : Int} {a : Nat} (h : a < 29 ∨ 32 < a) : mWr I r k f v t a = I a := by unfold mWr; rw [zup_ne (by omega), zup_ne (by omega), zup_ne (by omega), zup_ne (by omega)]
theorem zsf_le {k : Nat} (hk : k < 7) : 0 ≤ zsf 0 k ∧ zsf 1 k ≤ 400 := by
  rcases (show k = 0 ∨ k = 1 ∨ k = 2 ∨ k = 3 ∨ k = 4 ∨ k = 5 ∨ k = 6 by omega) with rfl | rfl | rfl | rfl | rfl | rfl | rfl <;> exact ⟨by decide, by decide⟩
theorem mWr_rl {I : Nat → Nat → Int} {r : Nat} {k f v t : Int} (hR : yRl I 29 r) (h : sRule k f v) (ht : 0 ≤ t ∧ t ≤ 300) : yRl (mWr I r k f v t) 29 (r + 1) := by
  intro i hi
  by_cases e : i = r
  · subst e
    have hz := zsf_le (k := k.toNat) (by omega)
    have e1 : mWr I i k f v t 29 i = k := by simp [mWr, zup]
    have e2 : mWr I i k f v t (29 + 1) i = f := by simp [mWr, zup]
    have e3 : mWr I i k f v t (29 + 2) i = v := by simp [mWr, zup]
    have e4 : mWr I i k f v t (29 + 3) i = t := by simp [mWr, zup]
    rw [e1, e2, e3, e4]
    exact ⟨h.1, h.2.1, by omega, ht⟩
  · have h0 := hR i (by omega)
    have e1 : ∀ a, mWr I r k f v t a i = I a i := fun a => by simp [mWr, zup, e]
    rw [e1, e1, e1, e1]
    exact h0
/-- how many of the first m are OUT now -/
def mON (I : Nat → Nat → Int) (t rc m : Nat) : Int := sm (fun m => bI (outB (vF I t rc) (pd I m) (jn I m) t t = true)) m
def mAll (I : Nat → Nat → Int) (m : Nat) : Int := sm (fun m => sm (pd I m) 301) m
def mGiv (I : Nat → Nat → Int) (m : Nat) : Int := sm (fun m => sm (bk I m) 301) m
def mCt (I : Nat → Nat → Int) (t mc rc pc bc : Nat) (a : Int) : Int := if a = 0 then (t : Int) else if a = 1 then (mc : Int) else if a = 2 then (rc : Int) else if a = 3 then (pc : Int) else if a = 4 then (bc : Int) else if a = 5 then mAll I mc - mGiv I mc else if a = 6 then mON I t rc mc else if a = 7 then mAll I mc else -1000000
def mLo1 (I : Nat → Nat → Int) (a : Int) (m : Nat) : Int := if a = 0 then 1 else if a = 1 then sm (pd I m) 301 else sm (bk I m) 301
def mLo (I : Nat → Nat → Int) (g a : Int) (m : Nat) : Int := sm (fun m => if I 26 m = g then mLo1 I a m else 0) m
section MQ2
variable {l : Launch} {E : zEnv} {n : Nat} {sh : Nat → Nat × Nat} {I : Nat → Nat → Int} {P : Nat → Nat → Option Nat}
set_option maxHeartbeats 4000000 in
set_option maxRecDepth 100000 in
theorem c_X7_what (hM : yM n sh P) {t mc rc pc : Nat} (ht : I 24 0 = (t : Int)) (ht3 : t ≤ 300) (hmc : I 24 1 = (mc : Int)) (hmc4 : mc ≤ 40) (hrc : I 24 2 = (rc : Int)) (hrc2 : rc ≤ 200) (hpc : I 24 3 = (pc : Int)) (hpc2 : pc ≤ 200) (hR : yRl I 29 rc) (hpap : mPap I pc t) (hjo : ∀ i, i < mc → 0 ≤ I 27 i ∧ I 27 i ≤ (t : Int)) (hpd : ∀ i, 0 ≤ I 28 i) (hps : ∀ m, m < mc → sm (pd I m) 301 ≤ 1000000) {m w k f v : Int} (hm : (-2147483648 ≤ m ∧ m ≤ 2147483647)) (hw : (-2147483648 ≤ w ∧ w ≤ 2147483647)) (hk : (-2147483648 ≤ k ∧ k ≤ 2147483647)) (hf : (-2147483648 ≤ f ∧ f ≤ 2147483647)) (hv : (-2147483648 ≤ v ∧ v ≤ 2147483647)) : yC l E jX7_what (rm 4 96) [.ref (zb E + 24), .int (iI m), .int (iI w), .int (iI k), .int (iI f), .int (iI v)] n sh I P (yS (some (.int (iI (if ((0 ≤ m ∧ m < (mc : Int)) ∧ (0 ≤ w ∧ w ≤ (t : Int)) ∧ sRule k f v) then GRm (mWr I rc k f v (t : Int)) m.toNat t pc (rc + 1) w.toNat (7 * t + 7) else -1)))) n sh P (fun I' => scF I I' rc)) := by
  refine yC_of (by decide) (Nat.le_of_ble_eq_true rfl) ?_
  refine z_aload_n dX7_what_0 rfl ?_
  refine z_iload_n dX7_what_1 rfl ?_
  refine y_callV dX7_what_2 kX7_132 (c_X7_isMember hM (by omega) (by omega)) (hM.lt (by decide)) (hM.2.1 24 (by decide)) rfl rfl rfl (Nat.le_of_ble_eq_true rfl) ⟨⟨by decide, by decide⟩, by decide, by decide⟩ (fun v2 n2 sh2 I2 P2 hp2 => ?_)
  obtain ⟨rfl, rfl, rfl, rfl, rfl⟩ := hp2
  refine z_if_eq 27 dX7_what_5 (by decide) (bI_rng _) (fun c_5 => ?_) (fun c_5 => ?_)
  · have c_5 := bI_0 c_5
    refine z_iconst dX7_what_27 ?_
    refine y_ireturn dX7_what_28 rfl ?_
    rw [if_neg (fun h => by first | exact c_24 h.2.2 | omega)]
    exact ⟨rfl, rfl, rfl, rfl, scF.rf⟩
  · have c_5 := bI_1 c_5
    refine z_aload_n dX7_what_8 rfl ?_
    refine z_iload_n dX7_what_9 rfl ?_
    refine y_callV dX7_what_10 kX7_164 (c_X7_isWeek hM (by omega) (by omega)) (hM.lt (by decide)) (hM.2.1 24 (by decide)) rfl rfl rfl (Nat.le_of_ble_eq_true rfl) ⟨⟨by decide, by decide⟩, by decide, by decide⟩ (fun v10 n10 sh10 I10 P10 hp10 => ?_)
    obtain ⟨rfl, rfl, rfl, rfl, rfl⟩ := hp10
    refine z_if_eq 27 dX7_what_13 (by decide) (bI_rng _) (fun c_13 => ?_) (fun c_13 => ?_)
    · have c_13 := bI_0 c_13
      refine z_iconst dX7_what_27 ?_
      refine y_ireturn dX7_what_28 rfl ?_
      rw [if_neg (fun h => by first | exact c_24 h.2.2 | omega)]
      exact ⟨rfl, rfl, rfl, rfl, scF.rf⟩
    · have c_13 := bI_1 c_13
      refine z_iload_n dX7_what_16 rfl ?_
      refine z_iload dX7_what_17 rfl ?_
      refine z_iload dX7_what_19 rfl ?_
      refine y_callS dX7_what_21 kX7_147 (c_X7_isRule hk hf hv) rfl rfl (Nat.le_of_ble_eq_true rfl) ⟨⟨by decide, by decide⟩, by decide, by decide⟩ (fun v21 n21 sh21 I21 P21 hp21 => ?_)
      obtain ⟨rfl, rfl, rfl, rfl, rfl⟩ := hp21
      refine z_if_ne 29 dX7_what_24 (by decide) (bI_rng _) (fun c_24 => ?_) (fun c_24 => ?_)
      · have c_24 := bI_1 c_24
        obtain ⟨m0, rfl⟩ : ∃ m0 : Nat, m = m0 := ⟨m.toNat, by omega⟩
        obtain ⟨w0, rfl⟩ : ∃ w0 : Nat, w = w0 := ⟨w.toNat, by omega⟩
        simp only [Int.toNat_natCast]
        have hj0 := hjo m0 (by omega)
        rw [if_pos ⟨by omega, by omega, c_24⟩]
        refine z_aload_n dX7_what_29 rfl ?_
        refine z_iload_n dX7_what_30 rfl ?_
        refine z_iload dX7_what_31 rfl ?_
        refine z_iload dX7_what_33 rfl ?_
        refine y_callV dX7_what_35 kX7_150 (c_X7_write hM ht (by omega) hrc hrc2) (hM.lt (by decide)) (hM.2.1 24 (by decide)) rfl rfl rfl (Nat.le_of_ble_eq_true rfl) ⟨⟨by decide, by decide⟩, by decide, by decide⟩ (fun v35 n35 sh35 I35 P35 hp35 => ?_)
        obtain ⟨rfl, rfl, rfl, rfl, rfl⟩ := hp35
        have hR2 : yRl (mWr I rc k f v (t : Int)) 29 (rc + 1) := mWr_rl hR c_24 (by omega)
        have e1 : ∀ a, (a < 29 ∨ 32 < a) → (mWr I rc k f v (t : Int)) a = I a := fun a ha => mWr_ne ha
        have ht2 : (mWr I rc k f v (t : Int)) 24 0 = (t : Int) := by rw [e1 24 (by omega)]; exact ht
        have hpc2 : (mWr I rc k f v (t : Int)) 24 3 = (pc : Int) := by rw [e1 24 (by omega)]; exact hpc
        refine z_aload_n dX7_what_38 rfl ?_
        refine z_aload_n dX7_what_39 rfl ?_
        refine y_getI dX7_what_40 fX7_100 (hM.lt (by decide)) (hM.2.1 24 (by decide)) rfl ?_
        refine z_top ((t : Int)) (ht2) ?_
        refine z_aload_n dX7_what_43 rfl ?_
        refine y_getI dX7_what_44 fX7_137 (hM.lt (by decide)) (hM.2.1 24 (by decide)) rfl ?_
        refine z_top ((rc : Int)) (by rw [e1 24 (by omega)]; exact hrc) ?_
        refine z_iconst dX7_what_47 ?_
        refine z_iadd dX7_what_48 ?_
        refine y_callV dX7_what_49 kX7_140 (c_X7_know (I := (mWr I rc k f v (t : Int))) (q := (t : Int)) (many := rc + 1) hM (by omega) (by omega) hR2 (by omega)) (hM.lt (by decide)) (hM.2.1 24 (by decide)) rfl rfl rfl (Nat.le_of_ble_eq_true rfl) ⟨⟨by decide, by decide⟩, by decide, by decide⟩ (fun v49 n49 sh49 I49 P49 hp49 => ?_)
        obtain ⟨rfl, rfl, rfl, rfl, h49⟩ := hp49
        refine z_aload_n dX7_what_52 rfl ?_
        refine z_iload_n dX7_what_53 rfl ?_
        refine y_callV dX7_what_54 kX7_154 (c_X7_go (I := I49) (m := m0) (t := t) (q := t) (j := jn (mWr I rc k f v (t : Int)) m0) (pc := pc) hM (by omega) (by rw [kn_eq h49 (by decide) (by decide)]; exact ht2) ht3 (kn_q h49) (by omega) (by rw [kn_eq h49 (by decide) (by decide)]; exact hpc2) (by omega) (by rw [kn_eq h49 (by decide) (by omega)]; unfold jn; rw [e1 27 (by omega)]; omega) (by unfold jn; rw [e1 27 (by omega)]; omega) (kn_pap h49 (by intro p hp; rw [e1 33 (by omega), e1 34 (by omega), e1 35 (by omega), e1 36 (by omega), e1 37 (by omega)]; exact hpap p hp)) (fun k w h1 h2 => by rw [kn_V h49 ht2 h1 h2]; exact vF_rng hR2 h1) (fun w hw => by rw [kn_ow h49 ht2 hw]; exact arr_ok hR2 (by omega) (by rw [e1 28 (by omega)]; exact hpd) (by unfold pd; rw [e1 28 (by omega)]; exact hps m0 (by omega)))) (hM.lt (by decide)) (hM.2.1 24 (by decide)) rfl rfl rfl (Nat.le_of_ble_eq_true rfl) ⟨⟨by decide, by decide⟩, by decide, by decide⟩ (fun v54 n54 sh54 I54 P54 hp54 => ?_)
        obtain ⟨rfl, rfl, rfl, rfl, h54⟩ := hp54
        have hs := kn_go h49 ht2 h54
        refine z_aload_n dX7_what_57 rfl ?_
        refine y_getR dX7_what_58 fX7_86 (hM.lt (by decide)) (hM.2.1 24 (by decide)) rfl (hM.2.2 31) ?_
        refine z_iload_n dX7_what_61 rfl ?_
        refine y_ialoadJ (w0) dX7_what_62 (hM.lt (by decide)) (hM.2.1 50 (by decide)) (by omega) (by decide) ?_
        rw [hs.2.2 w0 (by omega)]
        refine y_ireturn dX7_what_63 rfl ?_
        refine ⟨rfl, rfl, rfl, rfl, fun a b h1 h2 h3 => ?_⟩
        rw [hs.1 a b h1 h2]
        by_cases ha : 29 ≤ a ∧ a ≤ 32
        · simp [mWr, zup, show ¬ b = rc by omega]
        · rw [e1 a (by omega)]
      · have c_24 := bI_0 c_24
        refine z_iconst dX7_what_27 ?_
        refine y_ireturn dX7_what_28 rfl ?_
        rw [if_neg (fun h => by first | exact c_24 h.2.2 | omega)]
        exact ⟨rfl, rfl, rfl, rfl, scF.rf⟩
set_option maxHeartbeats 4000000 in
set_option maxRecDepth 100000 in
theorem l_X7_outNow (hM : yM n sh P) {t mc rc pc : Nat} (ht : I 24 0 = (t : Int)) (ht3 : t ≤ 300) (hmc : I 24 1 = (mc : Int)) (hmc4 : mc ≤ 40) (hrc : I 24 2 = (rc : Int)) (hrc2 : rc ≤ 200) (hpc : I 24 3 = (pc : Int)) (hpc2 : pc ≤ 200) (hR : yRl I 29 rc) (hpap : mPap I pc t) (hjo : ∀ i, i < mc → 0 ≤ I 27 i ∧ I 27 i ≤ (t : Int)) (hpd : ∀ i, 0 ≤ I 28 i) (hps : ∀ m, m < mc → sm (pd I m) 301 ≤ 1000000) {I1 : Nat → Nat → Int} (hk : mKn I I1 (t : Int) rc) : ∀ m0 : Nat, m0 ≤ mc → Z l E jX7_outNow (rm 3 71) (yE E 0 0 (yS (some (.int (iI (mON I t rc mc)))) n sh P (fun I' => scF I I' rc))) 0 0 (zw E n sh I1 P) 16 [(0, .ref (zb E + 24)), (1, .int (iI (mON I t rc m0))), (2, .int (iI m0))] [] := by
  refine zloop (fun m0 : Nat => mc - m0) (fun m0 ih hm0 => ?_)
  refine z_iload_n dX7_outNow_16 rfl ?_
  refine z_aload_n dX7_outNow_17 rfl ?_
  refine y_getI dX7_outNow_18 fX7_92 (hM.lt (by decide)) (hM.2.1 24 (by decide)) rfl ?_
  refine z_top ((mc : Int)) ((kn_eq hk (by decide) (by decide)).trans hmc) ?_
  refine z_icmp_ge 50 dX7_outNow_21 (by decide) (by omega) (by omega) (fun c_21 => ?_) (fun c_21 => ?_)
  · have em : m0 = mc := by omega
    subst em
    refine z_iload_n dX7_outNow_50 rfl ?_
    exact y_ireturn dX7_outNow_51 rfl (⟨rfl, rfl, rfl, rfl, fun a b h1 h2 h3 => kn_eq hk (by omega) h2⟩)
  · have hj0 := hjo m0 (by omega)
    refine z_iload_n dX7_outNow_24 rfl ?_
    refine zcut 42 (bI (outB (vF I t rc) (pd I m0) (jn I m0) t t = true)) ?_ (fun hc_25 => ?_)
    · refine z_iadd dX7_outNow_42 ?_
      refine z_istore_n dX7_outNow_43 (by decide) ?_
      refine z_iinc dX7_outNow_44 rfl (by decide) ?_
      refine z_goto 16 dX7_outNow_47 (by decide) ?_
      refine z_keys [0, 1, 2] ?_
      exact ih (m0 + 1) (by omega) (by omega)
    · refine z_aload_n dX7_outNow_25 rfl ?_
      refine z_iload_n dX7_outNow_26 rfl ?_
      refine z_aload_n dX7_outNow_27 rfl ?_
      refine y_getI dX7_outNow_28 fX7_100 (hM.lt (by decide)) (hM.2.1 24 (by decide)) rfl ?_
      refine z_top ((t : Int)) ((kn_eq hk (by decide) (by decide)).trans ht) ?_
      refine y_callV dX7_outNow_31 kX7_124 (c_X7_isOut (I := I1) (m := m0) (w := t) (q := t) (j := jn I m0) hM (by omega) (by omega) (kn_q hk) (by omega) (by rw [kn_eq hk (by decide) (by omega)]; unfold jn; omega) (by unfold jn; omega) (by rw [kn_ow hk ht (by omega)]; exact arr_ok hR (by omega) hpd (hps m0 (by omega))) (by have h := kn_V hk ht (k := 6) (w := t) (by decide) (by omega); unfold mV at h; rw [h]; exact vF_rng hR (by decide)) (by have h := kn_V hk ht (k := 0) (w := t) (by decide) (by omega); unfold mV at h; rw [show 301 * 0 + t = t by omega] at h; rw [h]; exact vF_rng hR (by decide))) (hM.lt (by decide)) (hM.2.1 24 (by decide)) rfl rfl rfl (Nat.le_of_ble_eq_true rfl) ⟨⟨by decide, by decide⟩, by decide, by decide⟩ (fun v31 n31 sh31 I31 P31 hp31 => ?_)
      obtain ⟨rfl, rfl, rfl, rfl, rfl⟩ := hp31
      have eo : bI (I1 45 (301 * 6 + t) * I1 45 t < sOw I1 m0 t t (jn I m0)) = bI (outB (vF I t rc) (pd I m0) (jn I m0) t t = true) := by
        have g6 := kn_V hk ht (k := 6) (w := t) (by decide) (by omega)
        have g0 := kn_V hk ht (k := 0) (w := t) (by decide) (by omega)
        unfold mV at g6 g0
        rw [show 301 * 0 + t = t by omega] at g0
        rw [kn_ow hk ht (by omega), g6, g0]
        exact bI_cong (by unfold outB; rw [decide_eq_true_eq])
      rw [eo]
      refine z_if_eq 41 dX7_outNow_34 (by decide) (bI_rng _) (fun c_34 => ?_) (fun c_34 => ?_)
      · refine z_iconst dX7_outNow_41 ?_
        exact hc_25 _ (by first | (rw [bI_t (bI_1 c_34)]; done) | (rw [bI_f (bI_0 c_34)]; done))
      · refine z_iconst dX7_outNow_37 ?_
        refine z_goto 42 dX7_outNow_38 (by decide) ?_
        exact hc_25 _ (by first | (rw [bI_t (bI_1 c_34)]; done) | (rw [bI_f (bI_0 c_34)]; done))
set_option maxHeartbeats 4000000 in
set_option maxRecDepth 100000 in
theorem c_X7_outNow (hM : yM n sh P) {t mc rc pc : Nat} (ht : I 24 0 = (t : Int)) (ht3 : t ≤ 300) (hmc : I 24 1 = (mc : Int)) (hmc4 : mc ≤ 40) (hrc : I 24 2 = (rc : Int)) (hrc2 : rc ≤ 200) (hpc : I 24 3 = (pc : Int)) (hpc2 : pc ≤ 200) (hR : yRl I 29 rc) (hpap : mPap I pc t) (hjo : ∀ i, i < mc → 0 ≤ I 27 i ∧ I 27 i ≤ (t : Int)) (hpd : ∀ i, 0 ≤ I 28 i) (hps : ∀ m, m < mc → sm (pd I m) 301 ≤ 1000000) : yC l E jX7_outNow (rm 3 71) [.ref (zb E + 24)] n sh I P (yS (some (.int (iI (mON I t rc mc)))) n sh P (fun I' => scF I I' rc)) := by
  refine yC_of (by decide) (Nat.le_of_ble_eq_true rfl) ?_
  refine z_aload_n dX7_outNow_0 rfl ?_
  refine z_aload_n dX7_outNow_1 rfl ?_
  refine y_getI dX7_outNow_2 fX7_100 (hM.lt (by decide)) (hM.2.1 24 (by decide)) rfl ?_
  refine z_top ((t : Int)) (ht) ?_
  refine z_aload_n dX7_outNow_5 rfl ?_
  refine y_getI dX7_outNow_6 fX7_137 (hM.lt (by decide)) (hM.2.1 24 (by decide)) rfl ?_
  refine z_top ((rc : Int)) (hrc) ?_
  refine y_callV dX7_outNow_9 kX7_140 (c_X7_know (I := I) (q := (t : Int)) (many := rc) hM (by omega) (by omega) hR (by omega)) (hM.lt (by decide)) (hM.2.1 24 (by decide)) rfl rfl rfl (Nat.le_of_ble_eq_true rfl) ⟨⟨by decide, by decide⟩, by decide, by decide⟩ (fun v9 n9 sh9 I9 P9 hp9 => ?_)
  obtain ⟨rfl, rfl, rfl, rfl, h9⟩ := hp9
  refine z_iconst dX7_outNow_12 ?_
  refine z_istore_n dX7_outNow_13 (by decide) ?_
  refine z_iconst dX7_outNow_14 ?_
  refine z_istore_n dX7_outNow_15 (by decide) ?_
  refine z_keys [0, 1, 2] ?_
  exact l_X7_outNow hM ht ht3 hmc hmc4 hrc hrc2 hpc hpc2 hR hpap hjo hpd hps h9 0 (by omega)
set_option maxHeartbeats 4000000 in
set_option maxRecDepth 100000 in
theorem l_X7_count (hM : yM n sh P) {t mc rc pc : Nat} (ht : I 24 0 = (t : Int)) (ht3 : t ≤ 300) (hmc : I 24 1 = (mc : Int)) (hmc4 : mc ≤ 40) (hrc : I 24 2 = (rc : Int)) (hrc2 : rc ≤ 200) (hpc : I 24 3 = (pc : Int)) (hpc2 : pc ≤ 200) (hR : yRl I 29 rc) (hpap : mPap I pc t) (hjo : ∀ i, i < mc → 0 ≤ I 27 i ∧ I 27 i ≤ (t : Int)) (hpd : ∀ i, 0 ≤ I 28 i) (hps : ∀ m, m < mc → sm (pd I m) 301 ≤ 1000000) {bc : Nat} (hbc : I 24 4 = (bc : Int)) (hbc2 : bc ≤ 20000) {a : Int} (ha : (-2147483648 ≤ a ∧ a ≤ 2147483647)) : ∀ i : Nat, i ≤ mc → Z l E jX7_count (rm 4 93) (yE E 0 0 (yS (some (.int (iI (mCt I t mc rc pc bc a)))) n sh P (fun I' => scF I I' rc))) 0 0 (zw E n sh I P) 7 [(0, .ref (zb E + 24)), (1, .int (iI a)), (2, .int (iI (mAll I i))), (3, .int (iI (mGiv I i))), (4, .int (iI i))] [] := by
  refine zloop (fun i : Nat => mc - i) (fun i ih hi0 => ?_)
  refine z_iload dX7_count_7 rfl ?_
  refine z_aload_n dX7_count_9 rfl ?_
  refine y_getI dX7_count_10 fX7_92 (hM.lt (by decide)) (hM.2.1 24 (by decide)) rfl ?_
  refine z_top ((mc : Int)) (hmc) ?_
  refine z_icmp_ge 40 dX7_count_13 (by decide) (by omega) (by omega) (fun c_13 => ?_) (fun c_13 => ?_)
  · have em : i = mc := by omega
    subst em
    refine z_iload_n dX7_count_40 rfl ?_
    rcases (show (a < 0 ∨ 7 < a) ∨ a = 0 ∨ a = 1 ∨ a = 2 ∨ a = 3 ∨ a = 4 ∨ a = 5 ∨ a = 6 ∨ a = 7 by omega) with hsw | hsw | hsw | hsw | hsw | hsw | hsw | hsw | hsw
    · refine z_tabOut 124 dX7_count_41 (by rw [iI_toInt (by omega)]; omega) (by decide) ?_
      refine z_ldc _ dX7_count_124 qX7_136 ?_
      refine y_ireturn dX7_count_126 rfl ?_
      unfold mCt
      first | (rw [if_pos (by omega)]; exact ⟨rfl, rfl, rfl, rfl, scF.rf⟩) | (rw [if_neg (by omega), if_pos (by omega)]; exact ⟨rfl, rfl, rfl, rfl, scF.rf⟩) | (rw [if_neg (by omega), if_neg (by omega), if_pos (by omega)]; exact ⟨rfl, rfl, rfl, rfl, scF.rf⟩) | (rw [if_neg (by omega), if_neg (by omega), if_neg (by omega), if_pos (by omega)]; exact ⟨rfl, rfl, rfl, rfl, scF.rf⟩) | (rw [if_neg (by omega), if_neg (by omega), if_neg (by omega), if_neg (by omega), if_pos (by omega)]; exact ⟨rfl, rfl, rfl, rfl, scF.rf⟩) | (rw [if_neg (by omega), if_neg (by omega), if_neg (by omega), if_neg (by omega), if_neg (by omega), if_pos (by omega)]; exact ⟨rfl, rfl, rfl, rfl, scF.rf⟩) | (rw [if_neg (by omega), if_neg (by omega), if_neg (by omega), if_neg (by omega), if_neg (by omega), if_neg (by omega), if_pos (by omega)]; exact ⟨rfl, rfl, rfl, rfl, scF.rf⟩) | (rw [if_neg (by omega), if_neg (by omega), if_neg (by omega), if_neg (by omega), if_neg (by omega), if_neg (by omega), if_neg (by omega), if_pos (by omega)]; exact ⟨rfl, rfl, rfl, rfl, scF.rf⟩) | (rw [if_neg (by omega), if_neg (by omega), if_neg (by omega), if_neg (by omega), if_neg (by omega), if_neg (by omega), if_neg (by omega), if_neg (by omega)]; exact ⟨rfl, rfl, rfl, rfl, scF.rf⟩)
    · refine z_tabIn 88 0 dX7_count_41 (by rw [iI_toInt (by omega)]; omega) (by decide) (by decide) rfl (by decide) ?_
      refine z_aload_n dX7_count_88 rfl ?_
      refine y_getI dX7_count_89 fX7_100 (hM.lt (by decide)) (hM.2.1 24 (by decide)) rfl ?_
      refine z_top ((t : Int)) (ht) ?_
      refine y_ireturn dX7_count_92 rfl ?_
      unfold mCt
      first | (rw [if_pos (by omega)]; exact ⟨rfl, rfl, rfl, rfl, scF.rf⟩) | (rw [if_neg (by omega), if_pos (by omega)]; exact ⟨rfl, rfl, rfl, rfl, scF.rf⟩) | (rw [if_neg (by omega), if_neg (by omega), if_pos (by omega)]; exact ⟨rfl, rfl, rfl, rfl, scF.rf⟩) | (rw [if_neg (by omega), if_neg (by omega), if_neg (by omega), if_pos (by omega)]; exact ⟨rfl, rfl, rfl, rfl, scF.rf⟩) | (rw [if_neg (by omega), if_neg (by omega), if_neg (by omega), if_neg (by omega), if_pos (by omega)]; exact ⟨rfl, rfl, rfl, rfl, scF.rf⟩) | (rw [if_neg (by omega), if_neg (by omega), if_neg (by omega), if_neg (by omega), if_neg (by omega), if_pos (by omega)]; exact ⟨rfl, rfl, rfl, rfl, scF.rf⟩) | (rw [if_neg (by omega), if_neg (by omega), if_neg (by omega), if_neg (by omega), if_neg (by omega), if_neg (by omega), if_pos (by omega)]; exact ⟨rfl, rfl, rfl, rfl, scF.rf⟩) | (rw [if_neg (by omega), if_neg (by omega), if_neg (by omega), if_neg (by omega), if_neg (by omega), if_neg (by omega), if_neg (by omega), if_pos (by omega)]; exact ⟨rfl, rfl, rfl, rfl, scF.rf⟩) | (rw [if_neg (by omega), if_neg (by omega), if_neg (by omega), if_neg (by omega), if_neg (by omega), if_neg (by omega), if_neg (by omega), if_neg (by omega)]; exact ⟨rfl, rfl, rfl, rfl, scF.rf⟩)
    · refine z_tabIn 93 1 dX7_count_41 (by rw [iI_toInt (by omega)]; omega) (by decide) (by decide) rfl (by decide) ?_
      refine z_aload_n dX7_count_93 rfl ?_
      refine y_getI dX7_count_94 fX7_92 (hM.lt (by decide)) (hM.2.1 24 (by decide)) rfl ?_
      refine z_top ((i : Int)) (hmc) ?_
      refine y_ireturn dX7_count_97 rfl ?_
      unfold mCt
      first | (rw [if_pos (by omega)]; exact ⟨rfl, rfl, rfl, rfl, scF.rf⟩) | (rw [if_neg (by omega), if_pos (by omega)]; exact ⟨rfl, rfl, rfl, rfl, scF.rf⟩) | (rw [if_neg (by omega), if_neg (by omega), if_pos (by omega)]; exact ⟨rfl, rfl, rfl, rfl, scF.rf⟩) | (rw [if_neg (by omega), if_neg (by omega), if_neg (by omega), if_pos (by omega)]; exact ⟨rfl, rfl, rfl, rfl, scF.rf⟩) | (rw [if_neg (by omega), if_neg (by omega), if_neg (by omega), if_neg (by omega), if_pos (by omega)]; exact ⟨rfl, rfl, rfl, rfl, scF.rf⟩) | (rw [if_neg (by omega), if_neg (by omega), if_neg (by omega), if_neg (by omega), if_neg (by omega), if_pos (by omega)]; exact ⟨rfl, rfl, rfl, rfl, scF.rf⟩) | (rw [if_neg (by omega), if_neg (by omega), if_neg (by omega), if_neg (by omega), if_neg (by omega), if_neg (by omega), if_pos (by omega)]; exact ⟨rfl, rfl, rfl, rfl, scF.rf⟩) | (rw [if_neg (by omega), if_neg (by omega), if_neg (by omega), if_neg (by omega), if_neg (by omega), if_neg (by omega), if_neg (by omega), if_pos (by omega)]; exact ⟨rfl, rfl, rfl, rfl, scF.rf⟩) | (rw [if_neg (by omega), if_neg (by omega), if_neg (by omega), if_neg (by omega), if_neg (by omega), if_neg (by omega), if_neg (by omega), if_neg (by omega)]; exact ⟨rfl, rfl, rfl, rfl, scF.rf⟩)
    · refine z_tabIn 98 2 dX7_count_41 (by rw [iI_toInt (by omega)]; omega) (by decide) (by decide) rfl (by decide) ?_
      refine z_aload_n dX7_count_98 rfl ?_
      refine y_getI dX7_count_99 fX7_137 (hM.lt (by decide)) (hM.2.1 24 (by decide)) rfl ?_
      refine z_top ((rc : Int)) (hrc) ?_
      refine y_ireturn dX7_count_102 rfl ?_
      unfold mCt
      first | (rw [if_pos (by omega)]; exact ⟨rfl, rfl, rfl, rfl, scF.rf⟩) | (rw [if_neg (by omega), if_pos (by omega)]; exact ⟨rfl, rfl, rfl, rfl, scF.rf⟩) | (rw [if_neg (by omega), if_neg (by omega), if_pos (by omega)]; exact ⟨rfl, rfl, rfl, rfl, scF.rf⟩) | (rw [if_neg (by omega), if_neg (by omega), if_neg (by omega), if_pos (by omega)]; exact ⟨rfl, rfl, rfl, rfl, scF.rf⟩) | (rw [if_neg (by omega), if_neg (by omega), if_neg (by omega), if_neg (by omega), if_pos (by omega)]; exact ⟨rfl, rfl, rfl, rfl, scF.rf⟩) | (rw [if_neg (by omega), if_neg (by omega), if_neg (by omega), if_neg (by omega), if_neg (by omega), if_pos (by omega)]; exact ⟨rfl, rfl, rfl, rfl, scF.rf⟩) | (rw [if_neg (by omega), if_neg (by omega), if_neg (by omega), if_neg (by omega), if_neg (by omega), if_neg (by omega), if_pos (by omega)]; exact ⟨rfl, rfl, rfl, rfl, scF.rf⟩) | (rw [if_neg (by omega), if_neg (by omega), if_neg (by omega), if_neg (by omega), if_neg (by omega), if_neg (by omega), if_neg (by omega), if_pos (by omega)]; exact ⟨rfl, rfl, rfl, rfl, scF.rf⟩) | (rw [if_neg (by omega), if_neg (by omega), if_neg (by omega), if_neg (by omega), if_neg (by omega), if_neg (by omega), if_neg (by omega), if_neg (by omega)]; exact ⟨rfl, rfl, rfl, rfl, scF.rf⟩)
    · refine z_tabIn 103 3 dX7_count_41 (by rw [iI_toInt (by omega)]; omega) (by decide) (by decide) rfl (by decide) ?_
      refine z_aload_n dX7_count_103 rfl ?_
      refine y_getI dX7_count_104 fX7_121 (hM.lt (by decide)) (hM.2.1 24 (by decide)) rfl ?_
      refine z_top ((pc : Int)) (hpc) ?_
      refine y_ireturn dX7_count_107 rfl ?_
      unfold mCt
      first | (rw [if_pos (by omega)]; exact ⟨rfl, rfl, rfl, rfl, scF.rf⟩) | (rw [if_neg (by omega), if_pos (by omega)]; exact ⟨rfl, rfl, rfl, rfl, scF.rf⟩) | (rw [if_neg (by omega), if_neg (by omega), if_pos (by omega)]; exact ⟨rfl, rfl, rfl, rfl, scF.rf⟩) | (rw [if_neg (by omega), if_neg (by omega), if_neg (by omega), if_pos (by omega)]; exact ⟨rfl, rfl, rfl, rfl, scF.rf⟩) | (rw [if_neg (by omega), if_neg (by omega), if_neg (by omega), if_neg (by omega), if_pos (by omega)]; exact ⟨rfl, rfl, rfl, rfl, scF.rf⟩) | (rw [if_neg (by omega), if_neg (by omega), if_neg (by omega), if_neg (by omega), if_neg (by omega), if_pos (by omega)]; exact ⟨rfl, rfl, rfl, rfl, scF.rf⟩) | (rw [if_neg (by omega), if_neg (by omega), if_neg (by omega), if_neg (by omega), if_neg (by omega), if_neg (by omega), if_pos (by omega)]; exact ⟨rfl, rfl, rfl, rfl, scF.rf⟩) | (rw [if_neg (by omega), if_neg (by omega), if_neg (by omega), if_neg (by omega), if_neg (by omega), if_neg (by omega), if_neg (by omega), if_pos (by omega)]; exact ⟨rfl, rfl, rfl, rfl, scF.rf⟩) | (rw [if_neg (by omega), if_neg (by omega), if_neg (by omega), if_neg (by omega), if_neg (by omega), if_neg (by omega), if_neg (by omega), if_neg (by omega)]; exact ⟨rfl, rfl, rfl, rfl, scF.rf⟩)
    · refine z_tabIn 108 4 dX7_count_41 (by rw [iI_toInt (by omega)]; omega) (by decide) (by decide) rfl (by decide) ?_
      refine z_aload_n dX7_count_108 rfl ?_
      refine y_getI dX7_count_109 fX7_158 (hM.lt (by decide)) (hM.2.1 24 (by decide)) rfl ?_
      refine z_top ((bc : Int)) (hbc) ?_
      refine y_ireturn dX7_count_112 rfl ?_
      unfold mCt
      first | (rw [if_pos (by omega)]; exact ⟨rfl, rfl, rfl, rfl, scF.rf⟩) | (rw [if_neg (by omega), if_pos (by omega)]; exact ⟨rfl, rfl, rfl, rfl, scF.rf⟩) | (rw [if_neg (by omega), if_neg (by omega), if_pos (by omega)]; exact ⟨rfl, rfl, rfl, rfl, scF.rf⟩) | (rw [if_neg (by omega), if_neg (by omega), if_neg (by omega), if_pos (by omega)]; exact ⟨rfl, rfl, rfl, rfl, scF.rf⟩) | (rw [if_neg (by omega), if_neg (by omega), if_neg (by omega), if_neg (by omega), if_pos (by omega)]; exact ⟨rfl, rfl, rfl, rfl, scF.rf⟩) | (rw [if_neg (by omega), if_neg (by omega), if_neg (by omega), if_neg (by omega), if_neg (by omega), if_pos (by omega)]; exact ⟨rfl, rfl, rfl, rfl, scF.rf⟩) | (rw [if_neg (by omega), if_neg (by omega), if_neg (by omega), if_neg (by omega), if_neg (by omega), if_neg (by omega), if_pos (by omega)]; exact ⟨rfl, rfl, rfl, rfl, scF.rf⟩) | (rw [if_neg (by omega), if_neg (by omega), if_neg (by omega), if_neg (by omega), if_neg (by omega), if_neg (by omega), if_neg (by omega), if_pos (by omega)]; exact ⟨rfl, rfl, rfl, rfl, scF.rf⟩) | (rw [if_neg (by omega), if_neg (by omega), if_neg (by omega), if_neg (by omega), if_neg (by omega), if_neg (by omega), if_neg (by omega), if_neg (by omega)]; exact ⟨rfl, rfl, rfl, rfl, scF.rf⟩)
    · refine z_tabIn 113 5 dX7_count_41 (by rw [iI_toInt (by omega)]; omega) (by decide) (by decide) rfl (by decide) ?_
      refine z_iload_n dX7_count_113 rfl ?_
      refine z_iload_n dX7_count_114 rfl ?_
      refine z_isub dX7_count_115 ?_
      refine y_ireturn dX7_count_116 rfl ?_
      unfold mCt
      first | (rw [if_pos (by omega)]; exact ⟨rfl, rfl, rfl, rfl, scF.rf⟩) | (rw [if_neg (by omega), if_pos (by omega)]; exact ⟨rfl, rfl, rfl, rfl, scF.rf⟩) | (rw [if_neg (by omega), if_neg (by omega), if_pos (by omega)]; exact ⟨rfl, rfl, rfl, rfl, scF.rf⟩) | (rw [if_neg (by omega), if_neg (by omega), if_neg (by omega), if_pos (by omega)]; exact ⟨rfl, rfl, rfl, rfl, scF.rf⟩) | (rw [if_neg (by omega), if_neg (by omega), if_neg (by omega), if_neg (by omega), if_pos (by omega)]; exact ⟨rfl, rfl, rfl, rfl, scF.rf⟩) | (rw [if_neg (by omega), if_neg (by omega), if_neg (by omega), if_neg (by omega), if_neg (by omega), if_pos (by omega)]; exact ⟨rfl, rfl, rfl, rfl, scF.rf⟩) | (rw [if_neg (by omega), if_neg (by omega), if_neg (by omega), if_neg (by omega), if_neg (by omega), if_neg (by omega), if_pos (by omega)]; exact ⟨rfl, rfl, rfl, rfl, scF.rf⟩) | (rw [if_neg (by omega), if_neg (by omega), if_neg (by omega), if_neg (by omega), if_neg (by omega), if_neg (by omega), if_neg (by omega), if_pos (by omega)]; exact ⟨rfl, rfl, rfl, rfl, scF.rf⟩) | (rw [if_neg (by omega), if_neg (by omega), if_neg (by omega), if_neg (by omega), if_neg (by omega), if_neg (by omega), if_neg (by omega), if_neg (by omega)]; exact ⟨rfl, rfl, rfl, rfl, scF.rf⟩)
    · refine z_tabIn 117 6 dX7_count_41 (by rw [iI_toInt (by omega)]; omega) (by decide) (by decide) rfl (by decide) ?_
      refine z_aload_n dX7_count_117 rfl ?_
      refine y_callV dX7_count_118 kX7_183 (c_X7_outNow hM ht ht3 hmc hmc4 hrc hrc2 hpc hpc2 hR hpap hjo hpd hps) (hM.lt (by decide)) (hM.2.1 24 (by decide)) rfl rfl rfl (Nat.le_of_ble_eq_true rfl) ⟨⟨by decide, by decide⟩, by decide, by decide⟩ (fun v118 n118 sh118 I118 P118 hp118 => ?_)
      obtain ⟨rfl, rfl, rfl, rfl, h118⟩ := hp118
      refine y_ireturn dX7_count_121 rfl ?_
      unfold mCt
      first | (rw [if_pos (by omega)]; exact ⟨rfl, rfl, rfl, rfl, h118⟩) | (rw [if_neg (by omega), if_pos (by omega)]; exact ⟨rfl, rfl, rfl, rfl, h118⟩) | (rw [if_neg (by omega), if_neg (by omega), if_pos (by omega)]; exact ⟨rfl, rfl, rfl, rfl, h118⟩) | (rw [if_neg (by omega), if_neg (by omega), if_neg (by omega), if_pos (by omega)]; exact ⟨rfl, rfl, rfl, rfl, h118⟩) | (rw [if_neg (by omega), if_neg (by omega), if_neg (by omega), if_neg (by omega), if_pos (by omega)]; exact ⟨rfl, rfl, rfl, rfl, h118⟩) | (rw [if_neg (by omega), if_neg (by omega), if_neg (by omega), if_neg (by omega), if_neg (by omega), if_pos (by omega)]; exact ⟨rfl, rfl, rfl, rfl, h118⟩) | (rw [if_neg (by omega), if_neg (by omega), if_neg (by omega), if_neg (by omega), if_neg (by omega), if_neg (by omega), if_pos (by omega)]; exact ⟨rfl, rfl, rfl, rfl, h118⟩) | (rw [if_neg (by omega), if_neg (by omega), if_neg (by omega), if_neg (by omega), if_neg (by omega), if_neg (by omega), if_neg (by omega), if_pos (by omega)]; exact ⟨rfl, rfl, rfl, rfl, h118⟩) | (rw [if_neg (by omega), if_neg (by omega), if_neg (by omega), if_neg (by omega), if_neg (by omega), if_neg (by omega), if_neg (by omega), if_neg (by omega)]; exact ⟨rfl, rfl, rfl, rfl, h118⟩)
    · refine z_tabIn 122 7 dX7_count_41 (by rw [iI_toInt (by omega)]; omega) (by decide) (by decide) rfl (by decide) ?_
      refine z_iload_n dX7_count_122 rfl ?_
      refine y_ireturn dX7_count_123 rfl ?_
      unfold mCt
      first | (rw [if_pos (by omega)]; exact ⟨rfl, rfl, rfl, rfl, scF.rf⟩) | (rw [if_neg (by omega), if_pos (by omega)]; exact ⟨rfl, rfl, rfl, rfl, scF.rf⟩) | (rw [if_neg (by omega), if_neg (by omega), if_pos (by omega)]; exact ⟨rfl, rfl, rfl, rfl, scF.rf⟩) | (rw [if_neg (by omega), if_neg (by omega), if_neg (by omega), if_pos (by omega)]; exact ⟨rfl, rfl, rfl, rfl, scF.rf⟩) | (rw [if_neg (by omega), if_neg (by omega), if_neg (by omega), if_neg (by omega), if_pos (by omega)]; exact ⟨rfl, rfl, rfl, rfl, scF.rf⟩) | (rw [if_neg (by omega), if_neg (by omega), if_neg (by omega), if_neg (by omega), if_neg (by omega), if_pos (by omega)]; exact ⟨rfl, rfl, rfl, rfl, scF.rf⟩) | (rw [if_neg (by omega), if_neg (by omega), if_neg (by omega), if_neg (by omega), if_neg (by omega), if_neg (by omega), if_pos (by omega)]; exact ⟨rfl, rfl, rfl, rfl, scF.rf⟩) | (rw [if_neg (by omega), if_neg (by omega), if_neg (by omega), if_neg (by omega), if_neg (by omega), if_neg (by omega), if_neg (by omega), if_pos (by omega)]; exact ⟨rfl, rfl, rfl, rfl, scF.rf⟩) | (rw [if_neg (by omega), if_neg (by omega), if_neg (by omega), if_neg (by omega), if_neg (by omega), if_neg (by omega), if_neg (by omega), if_neg (by omega)]; exact ⟨rfl, rfl, rfl, rfl, scF.rf⟩)
  · refine z_iload_n dX7_count_16 rfl ?_
    refine z_aload_n dX7_count_17 rfl ?_
    refine z_iload dX7_count_18 rfl ?_
    refine y_callV dX7_count_20 kX7_177 (c_X7_paidBy hM (by omega)) (hM.lt (by decide)) (hM.2.1 24 (by decide)) rfl rfl rfl (Nat.le_of_ble_eq_true rfl) ⟨⟨by decide, by decide⟩, by decide, by decide⟩ (fun v20 n20 sh20 I20 P20 hp20 => ?_)
    obtain ⟨rfl, rfl, rfl, rfl, rfl⟩ := hp20
    refine z_iadd dX7_count_23 ?_
    refine z_istore_n dX7_count_24 (by decide) ?_
    refine z_iload_n dX7_count_25 rfl ?_
    refine z_aload_n dX7_count_26 rfl ?_
    refine z_iload dX7_count_27 rfl ?_
    refine y_callV dX7_count_29 kX7_180 (c_X7_bookedFor hM (by omega)) (hM.lt (by decide)) (hM.2.1 24 (by decide)) rfl rfl rfl (Nat.le_of_ble_eq_true rfl) ⟨⟨by decide, by decide⟩, by decide, by decide⟩ (fun v29 n29 sh29 I29 P29 hp29 => ?_)
    obtain ⟨rfl, rfl, rfl, rfl, rfl⟩ := hp29
    refine z_iadd dX7_count_32 ?_
    refine z_istore_n dX7_count_33 (by decide) ?_
    refine z_iinc dX7_count_34 rfl (by decide) ?_
    refine z_goto 7 dX7_count_37 (by decide) ?_
    refine z_keys [0, 1, 2, 3, 4] ?_
    exact ih (i + 1) (by omega) (by omega)
set_option maxHeartbeats 4000000 in
set_option maxRecDepth 100000 in
theorem c_X7_count (hM : yM n sh P) {t mc rc pc : Nat} (ht : I 24 0 = (t : Int)) (ht3 : t ≤ 300) (hmc : I 24 1 = (mc : Int)) (hmc4 : mc ≤ 40) (hrc : I 24 2 = (rc : Int)) (hrc2 : rc ≤ 200) (hpc : I 24 3 = (pc : Int)) (hpc2 : pc ≤ 200) (hR : yRl I 29 rc) (hpap : mPap I pc t) (hjo : ∀ i, i < mc → 0 ≤ I 27 i ∧ I 27 i ≤ (t : Int)) (hpd : ∀ i, 0 ≤ I 28 i) (hps : ∀ m, m < mc → sm (pd I m) 301 ≤ 1000000) {bc : Nat} (hbc : I 24 4 = (bc : Int)) (hbc2 : bc ≤ 20000) {a : Int} (ha : (-2147483648 ≤ a ∧ a ≤ 2147483647)) : yC l E jX7_count (rm 4 93) [.ref (zb E + 24), .int (iI a)] n sh I P (yS (some (.int (iI (mCt I t mc rc pc bc a)))) n sh P (fun I' => scF I I' rc)) := by
  refine yC_of (by decide) (Nat.le_of_ble_eq_true rfl) ?_
  refine z_iconst dX7_count_0 ?_
  refine z_istore_n dX7_count_1 (by decide) ?_
  refine z_iconst dX7_count_2 ?_
  refine z_istore_n dX7_count_3 (by decide) ?_
  refine z_iconst dX7_count_4 ?_
  refine z_istore dX7_count_5 (by decide) ?_
  refine z_keys [0, 1, 2, 3, 4] ?_
  exact l_X7_count hM ht ht3 hmc hmc4 hrc hrc2 hpc hpc2 hR hpap hjo hpd hps hbc hbc2 ha 0 (by omega)
set_option maxHeartbeats 4000000 in
set_option maxRecDepth 100000 in
theorem l_X7_lodge (hM : yM n sh P) {mc : Nat} (hmc : I 24 1 = (mc : Int)) (hmc4 : mc ≤ 40) (hlo : ∀ i, i < mc → 0 ≤ I 26 i ∧ I 26 i ≤ 3) {g a : Int} (hg : (-2147483648 ≤ g ∧ g ≤ 2147483647)) (ha : (-2147483648 ≤ a ∧ a ≤ 2147483647)) : ∀ i : Nat, i ≤ mc → Z l E jX7_lodge (rm 1 23) (yE E 0 0 (yR (some (.int (iI (mLo I g a mc)))) n sh I P)) 0 0 (zw E n sh I P) 25 [(0, .ref (zb E + 24)), (1, .int (iI g)), (2, .int (iI a)), (3, .int (iI (mLo I g a i))), (4, .int (iI i))] [] := by
  refine zloop (fun i : Nat => mc - i) (fun i ih hi0 => ?_)
  refine z_iload dX7_lodge_25 rfl ?_
  refine z_aload_n dX7_lodge_27 rfl ?_
  refine y_getI dX7_lodge_28 fX7_92 (hM.lt (by decide)) (hM.2.1 24 (by decide)) rfl ?_
  refine z_top ((mc : Int)) (hmc) ?_
  refine z_icmp_ge 82 dX7_lodge_31 (by decide) (by omega) (by omega) (fun c_31 => ?_) (fun c_31 => ?_)
  · have em : i = mc := by omega
    subst em
    refine z_iload_n dX7_lodge_82 rfl ?_
    exact y_ireturn dX7_lodge_83 rfl (yR_rfl)
  · have hl := hlo i (by omega)
    refine z_aload_n dX7_lodge_34 rfl ?_
    refine y_getR dX7_lodge_35 fX7_13 (hM.lt (by decide)) (hM.2.1 24 (by decide)) rfl (hM.2.2 6) ?_
    refine z_iload dX7_lodge_38 rfl ?_
    refine y_ialoadJ (i) dX7_lodge_40 (hM.lt (by decide)) (hM.2.1 26 (by decide)) (by omega) (by decide) ?_
    refine z_iload_n dX7_lodge_41 rfl ?_
    refine z_icmp_ne 76 dX7_lodge_42 (by decide) (by omega) (by omega) (fun c_42 => ?_) (fun c_42 => ?_)
    · refine z_iinc dX7_lodge_76 rfl (by decide) ?_
      refine z_goto 25 dX7_lodge_79 (by decide) ?_
      refine z_keys [0, 1, 2, 3, 4] ?_
      have h5 := ih (i + 1) (by omega) (by omega)
      unfold mLo at h5 ⊢
      rw [sm_succ] at h5
      first | (rw [if_pos (by omega)] at h5; exact h5) | (rw [if_neg (by omega), Int.add_zero] at h5; exact h5)
    · refine z_iload_n dX7_lodge_45 rfl ?_
      refine zcut 74 (mLo1 I a i) ?_ (fun hc_46 => ?_)
      · refine z_iadd dX7_lodge_74 ?_
        refine z_istore_n dX7_lodge_75 (by decide) ?_
        refine z_iinc dX7_lodge_76 rfl (by decide) ?_
        refine z_goto 25 dX7_lodge_79 (by decide) ?_
        refine z_keys [0, 1, 2, 3, 4] ?_
        have h5 := ih (i + 1) (by omega) (by omega)
        unfold mLo at h5 ⊢
        rw [sm_succ] at h5
        first | (rw [if_pos (by omega)] at h5; exact h5) | (rw [if_neg (by omega), Int.add_zero] at h5; exact h5)
      · refine z_iload_n dX7_lodge_46 rfl ?_
        refine z_if_ne 54 dX7_lodge_47 (by decide) (by omega) (fun c_47 => ?_) (fun c_47 => ?_)
        · refine z_iload_n dX7_lodge_54 rfl ?_
          refine z_iconst dX7_lodge_55 ?_
          refine z_icmp_ne 68 dX7_lodge_56 (by decide) (by omega) (by omega) (fun c_56 => ?_) (fun c_56 => ?_)
          · refine z_aload_n dX7_lodge_68 rfl ?_
            refine z_iload dX7_lodge_69 rfl ?_
            refine y_callV dX7_lodge_71 kX7_180 (c_X7_bookedFor hM (by omega)) (hM.lt (by decide)) (hM.2.1 24 (by decide)) rfl rfl rfl (Nat.le_of_ble_eq_true rfl) ⟨⟨by decide, by decide⟩, by decide, by decide⟩ (fun v71 n71 sh71 I71 P71 hp71 => ?_)
            obtain ⟨rfl, rfl, rfl, rfl, rfl⟩ := hp71
            exact hc_46 _ (by unfold mLo1; first | (rw [if_pos (by omega)]; done) | (rw [if_neg (by omega), if_pos (by omega)]; rfl) | (rw [if_neg (by omega), if_neg (by omega)]; rfl))
          · refine z_aload_n dX7_lodge_59 rfl ?_
            refine z_iload dX7_lodge_60 rfl ?_
            refine y_callV dX7_lodge_62 kX7_177 (c_X7_paidBy hM (by omega)) (hM.lt (by decide)) (hM.2.1 24 (by decide)) rfl rfl rfl (Nat.le_of_ble_eq_true rfl) ⟨⟨by decide, by decide⟩, by decide, by decide⟩ (fun v62 n62 sh62 I62 P62 hp62 => ?_)
            obtain ⟨rfl, rfl, rfl, rfl, rfl⟩ := hp62
            refine z_goto 74 dX7_lodge_65 (by decide) ?_
            exact hc_46 _ (by unfold mLo1; first | (rw [if_pos (by omega)]; done) | (rw [if_neg (by omega), if_pos (by omega)]; rfl) | (rw [if_neg (by omega), if_neg (by omega)]; rfl))
        · refine z_iconst dX7_lodge_50 ?_
          refine z_goto 74 dX7_lodge_51 (by decide) ?_
          exact hc_46 _ (by unfold mLo1; first | (rw [if_pos (by omega)]; done) | (rw [if_neg (by omega), if_pos (by omega)]; rfl) | (rw [if_neg (by omega), if_neg (by omega)]; rfl))
set_option maxHeartbeats 4000000 in
set_option maxRecDepth 100000 in
theorem c_X7_lodge (hM : yM n sh P) {mc : Nat} (hmc : I 24 1 = (mc : Int)) (hmc4 : mc ≤ 40) (hlo : ∀ i, i < mc → 0 ≤ I 26 i ∧ I 26 i ≤ 3) {g a : Int} (hg : (-2147483648 ≤ g ∧ g ≤ 2147483647)) (ha : (-2147483648 ≤ a ∧ a ≤ 2147483647)) : yC l E jX7_lodge (rm 1 23) [.ref (zb E + 24), .int (iI g), .int (iI a)] n sh I P (yR (some (.int (iI (if ((0 ≤ g ∧ g ≤ 3) ∧ (0 ≤ a ∧ a ≤ 2)) then mLo I g a mc else -1)))) n sh I P) := by
  refine yC_of (by decide) (Nat.le_of_ble_eq_true rfl) ?_
  refine z_iload_n dX7_lodge_0 rfl ?_
  refine z_iconst dX7_lodge_1 ?_
  refine z_iconst dX7_lodge_2 ?_
  refine y_callS dX7_lodge_3 kX7_96 (c_X7_in hg (by omega) (by omega)) rfl rfl (Nat.le_of_ble_eq_true rfl) ⟨⟨by decide, by decide⟩, by decide, by decide⟩ (fun v3 n3 sh3 I3 P3 hp3 => ?_)
  obtain ⟨rfl, rfl, rfl, rfl, rfl⟩ := hp3
  refine z_if_eq 18 dX7_lodge_6 (by decide) (bI_rng _) (fun c_6 => ?_) (fun c_6 => ?_)
  · have c_6 := bI_0 c_6
    refine z_iconst dX7_lodge_18 ?_
    refine y_ireturn dX7_lodge_19 rfl ?_
    rw [if_neg (by omega)]
    exact yR_rfl
  · have c_6 := bI_1 c_6
    refine z_iload_n dX7_lodge_9 rfl ?_
    refine z_iconst dX7_lodge_10 ?_
    refine z_iconst dX7_lodge_11 ?_
    refine y_callS dX7_lodge_12 kX7_96 (c_X7_in ha (by omega) (by omega)) rfl rfl (Nat.le_of_ble_eq_true rfl) ⟨⟨by decide, by decide⟩, by decide, by decide⟩ (fun v12 n12 sh12 I12 P12 hp12 => ?_)
    obtain ⟨rfl, rfl, rfl, rfl, rfl⟩ := hp12
    refine z_if_ne 20 dX7_lodge_15 (by decide) (bI_rng _) (fun c_15 => ?_) (fun c_15 => ?_)
    · have c_15 := bI_1 c_15
      refine z_iconst dX7_lodge_20 ?_
      refine z_istore_n dX7_lodge_21 (by decide) ?_
      refine z_iconst dX7_lodge_22 ?_
      refine z_istore dX7_lodge_23 (by decide) ?_
      refine z_keys [0, 1, 2, 3, 4] ?_
      rw [if_pos (by omega)]
      exact l_X7_lodge hM hmc hmc4 hlo hg ha 0 (by omega)
    · have c_15 := bI_0 c_15
      refine z_iconst dX7_lodge_18 ?_
      refine y_ireturn dX7_lodge_19 rfl ?_
      rw [if_neg (by omega)]
      exact yR_rfl
end MQ2
