theorem sm_add (f g : Nat → Int) : ∀ n, sm (fun k => f k + g k) n = sm f n + sm g n
  | 0 => rfl
  | n + 1 => by rw [sm, sm, sm, sm_add f g n]; omega
theorem sm_swap (f : Nat → Nat → Int) (a : Nat) : ∀ b, sm (fun i => sm (fun j => f i j) a) b = sm (fun j => sm (fun i => f i j) b) a
  | 0 => (sm_0 (f := fun j => sm (fun i => f i j) 0) (fun k _ => rfl)).symm
  | b + 1 => by
    rw [sm, sm_swap f a b]
    have h := sm_add (fun j => sm (fun i => f i j) b) (fun j => f b j) a
    exact h.symm
/-- the bookings of a WEEK w, members 0 .. m - 1 -/
def mB1 (I : Nat → Nat → Int) (t : Int) (D : Nat → Nat → Int) (w : Nat) : Nat → Nat → Nat → Int
  | 0 => I
  | m + 1 => if D m w = 0 then mB1 I t D w m else mBo (mB1 I t D w m) (mB1 I t D w m 24 4).toNat t w m (D m w)
/-- the bookings of the WEEKS 0 .. w - 1 -/
def mB2 (I : Nat → Nat → Int) (t : Int) (D : Nat → Nat → Int) (mc : Nat) : Nat → Nat → Nat → Int
  | 0 => I
  | w + 1 => mB1 (mB2 I t D mc w) t D w mc
theorem mB1_succ (I : Nat → Nat → Int) (t : Int) (D : Nat → Nat → Int) (w m : Nat) : mB1 I t D w (m + 1) = if D m w = 0 then mB1 I t D w m else mBo (mB1 I t D w m) (mB1 I t D w m 24 4).toNat t w m (D m w) := rfl
def bzm (D : Nat → Nat → Int) (w m : Nat) : Int := sm (fun m => bI (¬ D m w = 0)) m
theorem mBo_row {I : Nat → Nat → Int} {b : Nat} {t : Int} {w m : Nat} {d : Int} {a : Nat} (h : a ≠ 24) (h2 : a < 38 ∨ 42 < a) : mBo I b t w m d a = I a := by unfold mBo; rw [zup_ne (by omega), zup_ne (by omega), zup_ne (by omega), zup_ne (by omega), zup_ne (by omega), zup_ne (by omega)]
theorem mBo_24 {I : Nat → Nat → Int} {b : Nat} {t : Int} {w m : Nat} {d : Int} {c : Nat} (h : c ≠ 4) : mBo I b t w m d 24 c = I 24 c := by simp [mBo, zup, h]
theorem mBo_n {I : Nat → Nat → Int} {b : Nat} {t : Int} {w m : Nat} {d : Int} : mBo I b t w m d 24 4 = (b : Int) + 1 := by simp [mBo, zup]
theorem mB1_row {I : Nat → Nat → Int} {t : Int} {D : Nat → Nat → Int} {w : Nat} {a : Nat} (h : a ≠ 24) (h2 : a < 38 ∨ 42 < a) : ∀ m, mB1 I t D w m a = I a
  | 0 => rfl
  | m + 1 => by
    rw [mB1_succ]
    split
    · exact mB1_row h h2 m
    · rw [mBo_row h h2]; exact mB1_row h h2 m
theorem mB1_24 {I : Nat → Nat → Int} {t : Int} {D : Nat → Nat → Int} {w : Nat} {c : Nat} (h : c ≠ 4) : ∀ m, mB1 I t D w m 24 c = I 24 c
  | 0 => rfl
  | m + 1 => by
    rw [mB1_succ]
    split
    · exact mB1_24 h m
    · rw [mBo_24 h]; exact mB1_24 h m
theorem mB1_n {I : Nat → Nat → Int} {t : Int} {D : Nat → Nat → Int} {w : Nat} (h : 0 ≤ I 24 4) : ∀ m, mB1 I t D w m 24 4 = I 24 4 + bzm D w m
  | 0 => by show I 24 4 = I 24 4 + 0; omega
  | m + 1 => by
    have h1 := mB1_n (t := t) (D := D) (w := w) h m
    have h2 := (sm_bI (p := fun m => ¬ D m w = 0) (dp := fun _ => inferInstance) m).1
    have h3 : bzm D w (m + 1) = bzm D w m + bI (¬ D m w = 0) := rfl
    rw [mB1_succ, h3]
    by_cases hd : D m w = 0
    · rw [if_pos hd, bI_f (fun z => z hd), h1]; omega
    · rw [if_neg hd, bI_t hd, mBo_n, h1]
      unfold bzm
      omega
theorem mB2_row {I : Nat → Nat → Int} {t : Int} {D : Nat → Nat → Int} {mc : Nat} {a : Nat} (h : a ≠ 24) (h2 : a < 38 ∨ 42 < a) : ∀ w, mB2 I t D mc w a = I a
  | 0 => rfl
  | w + 1 => (mB1_row h h2 mc).trans (mB2_row h h2 w)
theorem mB2_24 {I : Nat → Nat → Int} {t : Int} {D : Nat → Nat → Int} {mc : Nat} {c : Nat} (h : c ≠ 4) : ∀ w, mB2 I t D mc w 24 c = I 24 c
  | 0 => rfl
  | w + 1 => (mB1_24 h mc).trans (mB2_24 h w)
theorem mB2_n {I : Nat → Nat → Int} {t : Int} {D : Nat → Nat → Int} {mc : Nat} (h : 0 ≤ I 24 4) : ∀ w, mB2 I t D mc w 24 4 = I 24 4 + sm (fun w => bzm D w mc) w
  | 0 => by show I 24 4 = I 24 4 + 0; omega
  | w + 1 => by
    have h1 := mB2_n (t := t) (D := D) (mc := mc) h w
    have h0 : 0 ≤ sm (fun w => bzm D w mc) w := sm_nn (fun k _ => (sm_bI (p := fun m => ¬ D m k = 0) (dp := fun _ => inferInstance) mc).1)
    show mB1 (mB2 I t D mc w) t D w mc 24 4 = _
    rw [mB1_n (by omega), h1, sm]
    omega
/-- two worlds alike but for scratch -/
def rlS (A B : Nat → Nat → Int) : Prop := ∀ a b, ¬ (45 ≤ a ∧ a ≤ 51) → ¬ (a = 24 ∧ b = 26) → B a b = A a b
theorem rlS.up {A B : Nat → Nat → Int} (h : rlS A B) (k j : Nat) (x : Int) : rlS (zup A k j x) (zup B k j x) := by
  intro a b h1 h2
  simp only [zup]
  split
  · rfl
  · exact h a b h1 h2
theorem rlS.bo {A B : Nat → Nat → Int} (h : rlS A B) (b : Nat) (t : Int) (w m : Nat) (d : Int) : rlS (mBo A b t w m d) (mBo B b t w m d) := by
  unfold mBo
  rw [h 38 (301 * m + w) (by omega) (by omega)]
  exact (((((h.up 39 b t).up 40 b w).up 41 b m).up 42 b d).up 24 4 ((b : Int) + 1)).up 38 (301 * m + w) (A 38 (301 * m + w) + d)
theorem rlS.b1 {A B : Nat → Nat → Int} (h : rlS A B) (t : Int) {D D' : Nat → Nat → Int} (w : Nat) : ∀ m, (∀ m', m' < m → D' m' w = D m' w) → rlS (mB1 A t D w m) (mB1 B t D' w m)
  | 0, _ => h
  | m + 1, hd => by
    have h1 := rlS.b1 h t w m (fun m' hm' => hd m' (by omega))
    rw [mB1_succ, mB1_succ, hd m (by omega)]
    by_cases e : D m w = 0
    · rw [if_pos e, if_pos e]; exact h1
    · rw [if_neg e, if_neg e, h1 24 4 (by omega) (by omega)]
      exact h1.bo _ t w m (D m w)
theorem rlS.b2 {A B : Nat → Nat → Int} (h : rlS A B) (t : Int) {D D' : Nat → Nat → Int} (mc : Nat) : ∀ w, (∀ m' w', m' < mc → w' < w → D' m' w' = D m' w') → rlS (mB2 A t D mc w) (mB2 B t D' mc w)
  | 0, _ => h
  | w + 1, hd => rlS.b1 (rlS.b2 h t mc w (fun m' w' h1 h2 => hd m' w' h1 (by omega))) t w mc (fun m' hm' => hd m' w hm' (by omega))
/-- what week() makes where it is not refused -/
def mWe (I : Nat → Nat → Int) (t mc rc pc : Nat) : Nat → Nat → Int := zup (mB2 I (t : Int) (dfm I t rc pc) mc (t + 1)) 24 0 ((t : Int) + 1)
theorem bzm_mono {D : Nat → Nat → Int} {w a b : Nat} (h : a ≤ b) : bzm D w a ≤ bzm D w b := sm_mono h (fun k _ => by have := bI_or (¬ D k w = 0); omega)
theorem bz2_mono {D : Nat → Nat → Int} {mc a b : Nat} (h : a ≤ b) : sm (fun w => bzm D w mc) a ≤ sm (fun w => bzm D w mc) b := sm_mono h (fun k _ => (sm_bI (p := fun m => ¬ D m k = 0) (dp := fun _ => inferInstance) mc).1)
section MWk2
variable {l : Launch} {E : zEnv} {n : Nat} {sh : Nat → Nat × Nat} {I : Nat → Nat → Int} {P : Nat → Nat → Option Nat}
set_option maxHeartbeats 4000000 in
set_option maxRecDepth 100000 in
theorem l3b_X7_week (hM : yM n sh P) {t mc bc : Nat} (ht : I 24 0 = (t : Int)) (ht3 : t ≤ 300) (hmc : I 24 1 = (mc : Int)) (hmc4 : mc ≤ 40) (hbc : I 24 4 = (bc : Int)) {D : Nat → Nat → Int} (hD : ∀ m w, m < mc → w ≤ t → I 51 (301 * m + w) = D m w) (hDr : ∀ m w, m < mc → w ≤ t → -2147483648 ≤ D m w ∧ D m w ≤ 2147483647) (htot : (bc : Int) + sm (fun w => bzm D w mc) (t + 1) ≤ 20000) {X : Int} {K : zK} {w : Nat} (hw : w ≤ t) (hout : Z l E jX7_week (rm 4 96) K 0 0 (zw E n sh (mB2 I (t : Int) D mc (w + 1)) P) 127 [(0, .ref (zb E + 24)), (1, .int (iI X)), (2, .int (iI ((w : Int) + 1)))] []) : ∀ m : Nat, m ≤ mc → Z l E jX7_week (rm 4 96) K 0 0 (zw E n sh (mB1 (mB2 I (t : Int) D mc w) (t : Int) D w m) P) 137 [(0, .ref (zb E + 24)), (1, .int (iI X)), (2, .int (iI w)), (3, .int (iI m))] [] := by
  refine zloop (fun m : Nat => mc - m) (fun m ih hm0 => ?_)
  refine z_iload_n dX7_week_137 rfl ?_
  refine z_aload_n dX7_week_138 rfl ?_
  refine y_getI dX7_week_139 fX7_92 (hM.lt (by decide)) (hM.2.1 24 (by decide)) rfl ?_
  refine z_top ((mc : Int)) (by rw [mB1_24 (by decide), mB2_24 (by decide)]; exact hmc) ?_
  refine z_icmp_ge 178 dX7_week_142 (by decide) (by omega) (by omega) (fun c_142 => ?_) (fun c_142 => ?_)
  · refine z_iinc dX7_week_178 rfl (by decide) ?_
    refine z_goto 127 dX7_week_181 (by decide) ?_
    refine z_keys [0, 1, 2] ?_
    have em : m = mc := by omega
    subst em
    exact hout
  · have hm : m < mc := by omega
    have hdr := hDr m w hm hw
    refine z_aload_n dX7_week_145 rfl ?_
    refine y_getR dX7_week_146 fX7_89 (hM.lt (by decide)) (hM.2.1 24 (by decide)) rfl (hM.2.2 32) ?_
    refine z_sipush dX7_week_149 rfl ?_
    refine z_iload_n dX7_week_152 rfl ?_
    refine z_imul dX7_week_153 ?_
    refine z_iload_n dX7_week_154 rfl ?_
    refine z_iadd dX7_week_155 ?_
    refine y_ialoadJ (301 * m + w) dX7_week_156 (hM.lt (by decide)) (hM.2.1 51 (by decide)) (by omega) (by decide) ?_
    refine z_top (D m w) (by rw [mB1_row (by decide) (by omega), mB2_row (by decide) (by omega)]; exact hD m w hm hw) ?_
    refine z_istore dX7_week_157 (by decide) ?_
    refine z_iload dX7_week_159 rfl ?_
    refine z_if_eq 172 dX7_week_161 (by decide) hdr (fun c_161 => ?_) (fun c_161 => ?_)
    · refine z_iinc dX7_week_172 rfl (by decide) ?_
      refine z_goto 137 dX7_week_175 (by decide) ?_
      refine z_keys [0, 1, 2, 3] ?_
      have h5 := ih (m + 1) (by omega) (by omega)
      rw [mB1_succ] at h5
      first | (rw [if_pos c_161] at h5; exact h5) | (rw [if_neg c_161] at h5; exact h5)
    · have hn1 := mB1_n (I := (mB2 I (t : Int) D mc w)) (t := (t : Int)) (D := D) (w := w) (by rw [mB2_n (by omega)]; have := bz2_mono (D := D) (mc := mc) (Nat.zero_le w); have h0 : sm (fun w => bzm D w mc) 0 = 0 := rfl; omega) m
      rw [mB2_n (I := I) (by omega)] at hn1
      have g1 := bz2_mono (D := D) (mc := mc) (a := w + 1) (b := t + 1) (by omega)
      rw [sm_succ] at g1
      have g2 := bzm_mono (D := D) (w := w) (a := m + 1) (b := mc) (by omega)
      have g3 : bzm D w (m + 1) = bzm D w m + bI (¬ D m w = 0) := rfl
      rw [bI_t c_161] at g3
      have g4 : 0 ≤ sm (fun w => bzm D w mc) w := bz2_mono (D := D) (mc := mc) (Nat.zero_le w)
      have g5 : 0 ≤ bzm D w m := bzm_mono (D := D) (w := w) (Nat.zero_le m)
      refine z_aload_n dX7_week_164 rfl ?_
      refine z_iload_n dX7_week_165 rfl ?_
      refine z_iload_n dX7_week_166 rfl ?_
      refine z_iload dX7_week_167 rfl ?_
      refine y_callV dX7_week_169 kX7_161 (c_X7_book (I := (mB1 (mB2 I (t : Int) D mc w) (t : Int) D w m)) (t := (t : Int)) (b := ((mB1 (mB2 I (t : Int) D mc w) (t : Int) D w m) 24 4).toNat) (w := w) (m := m) (d := D m w) hM (by rw [mB1_24 (by decide), mB2_24 (by decide)]; exact ht) (by omega) (by omega) (by omega) (by omega) (by omega)) (hM.lt (by decide)) (hM.2.1 24 (by decide)) rfl rfl rfl (Nat.le_of_ble_eq_true rfl) ⟨⟨by decide, by decide⟩, by decide, by decide⟩ (fun v169 n169 sh169 I169 P169 hp169 => ?_)
      obtain ⟨rfl, rfl, rfl, rfl, rfl⟩ := hp169
      refine z_iinc dX7_week_172 rfl (by decide) ?_
      refine z_goto 137 dX7_week_175 (by decide) ?_
      refine z_keys [0, 1, 2, 3] ?_
      have h5 := ih (m + 1) (by omega) (by omega)
      rw [mB1_succ] at h5
      first | (rw [if_pos c_161] at h5; exact h5) | (rw [if_neg c_161] at h5; exact h5)
set_option maxHeartbeats 4000000 in
set_option maxRecDepth 100000 in
theorem l3_X7_week (hM : yM n sh P) {t mc bc : Nat} (ht : I 24 0 = (t : Int)) (ht3 : t ≤ 300) (hmc : I 24 1 = (mc : Int)) (hmc4 : mc ≤ 40) (hbc : I 24 4 = (bc : Int)) {D : Nat → Nat → Int} (hD : ∀ m w, m < mc → w ≤ t → I 51 (301 * m + w) = D m w) (hDr : ∀ m w, m < mc → w ≤ t → -2147483648 ≤ D m w ∧ D m w ≤ 2147483647) (htot : (bc : Int) + sm (fun w => bzm D w mc) (t + 1) ≤ 20000) {X : Int} {K : zK} (hout : Z l E jX7_week (rm 4 96) K 0 0 (zw E n sh (mB2 I (t : Int) D mc (t + 1)) P) 184 [(0, .ref (zb E + 24)), (1, .int (iI X))] []) : ∀ w : Nat, w ≤ t + 1 → Z l E jX7_week (rm 4 96) K 0 0 (zw E n sh (mB2 I (t : Int) D mc w) P) 127 [(0, .ref (zb E + 24)), (1, .int (iI X)), (2, .int (iI w))] [] := by
  refine zloop (fun w : Nat => t + 1 - w) (fun w ih hw0 => ?_)
  refine z_iload_n dX7_week_127 rfl ?_
  refine z_aload_n dX7_week_128 rfl ?_
  refine y_getI dX7_week_129 fX7_100 (hM.lt (by decide)) (hM.2.1 24 (by decide)) rfl ?_
  refine z_top ((t : Int)) (by rw [mB2_24 (by decide)]; exact ht) ?_
  refine z_icmp_gt 184 dX7_week_132 (by decide) (by omega) (by omega) (fun c_132 => ?_) (fun c_132 => ?_)
  · have ew : w = t + 1 := by omega
    subst ew
    refine z_keys [0, 1] ?_
    exact hout
  · refine z_iconst dX7_week_135 ?_
    refine z_istore_n dX7_week_136 (by decide) ?_
    refine z_keys [0, 1, 2, 3] ?_
    exact l3b_X7_week hM ht ht3 hmc hmc4 hbc hD hDr htot (X := X) (K := K) (w := w) (by omega) (ih (w + 1) (by omega) (by omega)) 0 (by omega)
set_option maxHeartbeats 4000000 in
set_option maxRecDepth 100000 in
theorem c_X7_week (hM : yM n sh P) {t mc rc pc : Nat} (ht : I 24 0 = (t : Int)) (ht3 : t ≤ 300) (hmc : I 24 1 = (mc : Int)) (hmc4 : mc ≤ 40) (hrc : I 24 2 = (rc : Int)) (hrc2 : rc ≤ 200) (hpc : I 24 3 = (pc : Int)) (hpc2 : pc ≤ 200) (hR : yRl I 29 rc) (hpap : mPap I pc t) (hjo : ∀ i, i < mc → 0 ≤ I 27 i ∧ I 27 i ≤ (t : Int)) (hpd : ∀ i, 0 ≤ I 28 i) (hps : ∀ m, m < mc → sm (pd I m) 301 ≤ 1000000) {bc : Nat} (hbc : I 24 4 = (bc : Int)) (hbc2 : bc ≤ 20000) (hbk : ∀ i, -1000000 ≤ I 38 i ∧ I 38 i ≤ 1000000) : yC l E jX7_week (rm 4 96) [.ref (zb E + 24)] n sh I P (yS (some (.int (iI (if (t < 300 ∧ (bc : Int) + dn2 I t rc pc mc ≤ 20000) then dn2 I t rc pc mc else -1)))) n sh P (fun I' => scF (if (t < 300 ∧ (bc : Int) + dn2 I t rc pc mc ≤ 20000) then mWe I t mc rc pc else I) I' rc)) := by
  refine yC_of (by decide) (Nat.le_of_ble_eq_true rfl) ?_
  refine z_aload_n dX7_week_0 rfl ?_
  refine y_getI dX7_week_1 fX7_100 (hM.lt (by decide)) (hM.2.1 24 (by decide)) rfl ?_
  refine z_top ((t : Int)) (ht) ?_
  refine z_sipush dX7_week_4 rfl ?_
  refine z_icmp_ne 12 dX7_week_7 (by decide) (by omega) (by omega) (fun c_7 => ?_) (fun c_7 => ?_)
  · refine z_aload_n dX7_week_12 rfl ?_
    refine z_aload_n dX7_week_13 rfl ?_
    refine y_getI dX7_week_14 fX7_100 (hM.lt (by decide)) (hM.2.1 24 (by decide)) rfl ?_
    refine z_top ((t : Int)) (ht) ?_
    refine z_aload_n dX7_week_17 rfl ?_
    refine y_getI dX7_week_18 fX7_137 (hM.lt (by decide)) (hM.2.1 24 (by decide)) rfl ?_
    refine z_top ((rc : Int)) (hrc) ?_
    refine y_callV dX7_week_21 kX7_140 (c_X7_know (I := I) (q := (t : Int)) (many := rc) hM (by omega) (by omega) hR (by omega)) (hM.lt (by decide)) (hM.2.1 24 (by decide)) rfl rfl rfl (Nat.le_of_ble_eq_true rfl) ⟨⟨by decide, by decide⟩, by decide, by decide⟩ (fun v21 n21 sh21 I21 P21 hp21 => ?_)
    obtain ⟨rfl, rfl, rfl, rfl, h21⟩ := hp21
    refine z_iconst dX7_week_24 ?_
    refine z_istore_n dX7_week_25 (by decide) ?_
    refine z_iconst dX7_week_26 ?_
    refine z_istore_n dX7_week_27 (by decide) ?_
    refine z_keys [0, 1, 2] ?_
    refine l1_X7_week hM ht ht3 hmc hmc4 hrc hrc2 hpc hpc2 hR hpap hjo hpd hps hbk (fun I3 hA => ?_) 0 I21 ⟨⟨fun a b h => h21.1 a b (by omega), h21.2⟩, fun m' w' h1 h2 => by omega⟩ (by omega)
    have hd2 := dn2_rng I t rc pc mc
    have hd3 : dn2 I t rc pc mc ≤ 12040 := by
      have h := Int.mul_le_mul (show (mc : Int) ≤ 40 by omega) (show (t : Int) + 1 ≤ 301 by omega) (by omega) (by decide : (0 : Int) ≤ 40)
      omega
    refine z_aload_n dX7_week_111 rfl ?_
    refine y_getI dX7_week_112 fX7_158 (hM.lt (by decide)) (hM.2.1 24 (by decide)) rfl ?_
    refine z_top ((bc : Int)) (by rw [hA.1.1 24 4 (by omega)]; exact hbc) ?_
    refine z_iload_n dX7_week_115 rfl ?_
    refine z_iadd dX7_week_116 ?_
    refine z_sipush dX7_week_117 rfl ?_
    refine z_icmp_le 125 dX7_week_120 (by decide) (by omega) (by omega) (fun c_120 => ?_) (fun c_120 => ?_)
    · rw [if_pos (by omega), if_pos (by omega)]
      have hD : ∀ m w, m < mc → w ≤ t → I3 51 (301 * m + w) = dfm I t rc pc m w := fun m w h1 h2 => hA.2 m w h2 (by omega)
      have hDr : ∀ m w, m < mc → w ≤ t → -2147483648 ≤ dfm I t rc pc m w ∧ dfm I t rc pc m w ≤ 2147483647 := fun m w _ _ => by
        have hgr := GRm_rng (I := I) (m := m) (q := t) (pc := pc) (many := rc) (w := w) (D := 7 * t + 7) hR
        have hbb : -1000000 ≤ bk I m w ∧ bk I m w ≤ 1000000 := hbk _
        unfold dfm; omega
      have hsw : sm (fun w => bzm (dfm I t rc pc) w mc) (t + 1) = dn2 I t rc pc mc := sm_swap (fun w m => bI (¬ dfm I t rc pc m w = 0)) mc (t + 1)
      refine z_iconst dX7_week_125 ?_
      refine z_istore_n dX7_week_126 (by decide) ?_
      refine z_keys [0, 1, 2] ?_
      refine l3_X7_week (I := I3) (bc := bc) (D := dfm I t rc pc) (X := dn2 I t rc pc mc) hM (by rw [hA.1.1 24 0 (by omega)]; exact ht) ht3 (by rw [hA.1.1 24 1 (by omega)]; exact hmc) hmc4 (by rw [hA.1.1 24 4 (by omega)]; exact hbc) hD hDr (by rw [hsw]; omega) ?_ 0 (by omega)
      refine z_aload_n dX7_week_184 rfl ?_
      refine z_dup dX7_week_185 rfl ?_
      refine y_getI dX7_week_186 fX7_100 (hM.lt (by decide)) (hM.2.1 24 (by decide)) rfl ?_
      refine z_top ((t : Int)) (by rw [mB2_24 (by decide), hA.1.1 24 0 (by omega)]; exact ht) ?_
      refine z_iconst dX7_week_189 ?_
      refine z_iadd dX7_week_190 ?_
      refine y_putI dX7_week_191 fX7_100 (hM.lt (by decide)) (hM.2.1 24 (by decide)) rfl ?_
      refine z_iload_n dX7_week_194 rfl ?_
      refine y_ireturn dX7_week_195 rfl ?_
      refine ⟨rfl, rfl, rfl, rfl, fun a b h1 h2 h3 => ?_⟩
      have hrl : rlS I I3 := fun a b h1 h2 => by rw [hA.1.1 a b h1]; simp only [zup, h2, if_false]
      exact ((hrl.b2 (t : Int) mc (t + 1) (D := dfm I t rc pc) (D' := dfm I t rc pc) (fun _ _ _ _ => rfl)).up 24 0 ((t : Int) + 1)) a b h1 h2
    · refine z_iconst dX7_week_123 ?_
      refine y_ireturn dX7_week_124 rfl ?_
      rw [if_neg (by omega), if_neg (by omega)]
      exact ⟨rfl, rfl, rfl, rfl, (fun a b h1 h2 h3 => by rw [hA.1.1 a b h1]; simp only [zup, h2, if_false])⟩
  · refine z_iconst dX7_week_10 ?_
    refine y_ireturn dX7_week_11 rfl ?_
    rw [if_neg (by omega), if_neg (by omega)]
    exact ⟨rfl, rfl, rfl, rfl, scF.rf⟩
end MWk2
