theorem iL_nat (n : Nat) : iL (n : Int) = lN n := Int64.ofInt_eq_ofNat
theorem iL_0 : iL 0 = 0 := rfl
theorem iL_div {a b : Int} (ha : -9223372036854775808 ≤ a ∧ a ≤ 9223372036854775807) (hb : 0 < b ∧ b ≤ 9223372036854775807) : iL a / iL b = iL (a.tdiv b) := by
  apply Int64.toInt_inj.mp
  rw [Int64.toInt_div_of_ne_right _ _ (by
    intro h
    have h2 := congrArg Int64.toInt h
    rw [iL_toInt (by omega)] at h2
    rw [h2] at hb
    exact absurd hb.1 (by decide)), iL_toInt ha, iL_toInt (by omega), iL_toInt]
  rcases Int.le_total 0 a with h | h
  · rw [Int.tdiv_eq_ediv_of_nonneg h]
    have h1 := Int.ediv_nonneg h (by omega : 0 ≤ b)
    have h2 := Int.ediv_le_self b h
    omega
  · have e : a.tdiv b = -((-a) / b) := by rw [← Int.tdiv_eq_ediv_of_nonneg (by omega : 0 ≤ -a), Int.neg_tdiv, Int.neg_neg]
    rw [e]
    have h1 := Int.ediv_nonneg (by omega : 0 ≤ -a) (by omega : 0 ≤ b)
    have h2 := Int.ediv_le_self b (by omega : 0 ≤ -a)
    omega
theorem iL_rem {a b : Nat} (ha : a < 9223372036854775808) (hb : 0 < b ∧ b < 9223372036854775808) : iL (a : Int) - iL (a : Int) / iL (b : Int) * iL (b : Int) = iL ((a % b : Nat) : Int) := by
  rw [iL_nat, iL_nat, iL_nat]
  exact pk_lRem ha hb.1 hb.2
theorem lgc_0 {a b : Int} (ha : -9223372036854775808 ≤ a ∧ a ≤ 9223372036854775807) (hb : -9223372036854775808 ≤ b ∧ b ≤ 9223372036854775807) : lg_cmp (iL a) (iL b) = 0 ↔ a = b := by
  unfold lg_cmp
  constructor
  · intro h
    split at h
    · cases h
    · split at h
      · rename_i h2; exact (iL_eq ha hb).mp h2
      · cases h
  · intro h
    subst h
    rw [if_neg (fun q => absurd ((iL_lt ha ha).mp q) (by omega)), if_pos rfl]
theorem lgc_ge {a b : Int} (ha : -9223372036854775808 ≤ a ∧ a ≤ 9223372036854775807) (hb : -9223372036854775808 ≤ b ∧ b ≤ 9223372036854775807) : 0 ≤ lg_cmp (iL a) (iL b) ↔ b ≤ a := by
  rw [lg_cmp_ge, Int64.le_iff_toInt_le, iL_toInt ha, iL_toInt hb]
/-- LIVING and SICK of an age -/
def lvA (r : Nat → Int) (x : Nat) : Int := if x < 100 then r x else 0
/-- the sum of WORTH over n years: of the rows lv, sk -/
def wSum (lv sk : Nat → Int) (x : Nat) (wh du : Int) (n : Nat) : Int := sm (fun t => lvA lv (x + t) * (lvA sk (x + t) * wh - 52 * du)) n
/-- WORTH: numerator, denominator, in lowest terms -/
def wRes (S al : Int) (a : Int) : Int := if a = 0 then S.tdiv (Int.gcd S al) else al.tdiv (Int.gcd S al)
theorem lvA_rng {r : Nat → Int} {B : Int} (hB : 0 ≤ B) (h : ∀ i, i < 100 → 0 ≤ r i ∧ r i ≤ B) (x : Nat) : 0 ≤ lvA r x ∧ lvA r x ≤ B := by
  unfold lvA
  split
  · exact h x (by assumption)
  · omega
theorem wT_rng {l s wh du : Int} (hl : 0 ≤ l ∧ l ≤ 1000) (hs : 0 ≤ s ∧ s ≤ 365) (hw : 0 ≤ wh ∧ wh ≤ 400) (hd : 0 ≤ du ∧ du ≤ 400) : -1000000000 ≤ l * (s * wh - 52 * du) ∧ l * (s * wh - 52 * du) ≤ 1000000000 := by
  have h1 : 0 ≤ s * wh := Int.mul_nonneg hs.1 hw.1
  have h2 : s * wh ≤ 365 * 400 := Int.mul_le_mul hs.2 hw.2 hw.1 (by decide)
  have h3 : -20800 ≤ s * wh - 52 * du ∧ s * wh - 52 * du ≤ 146000 := by omega
  generalize s * wh - 52 * du = z at h3
  have h4 : l * z ≤ 1000 * 146000 := by
    rcases Int.le_total 0 z with hz | hz
    · exact Int.mul_le_mul hl.2 h3.2 hz (by decide)
    · have := Int.mul_nonneg hl.1 (by omega : 0 ≤ -z)
      rw [Int.mul_neg] at this
      omega
  have h5 : l * (-z) ≤ 1000 * 20800 := by
    rcases Int.le_total 0 (-z) with hz | hz
    · exact Int.mul_le_mul hl.2 (by omega) hz (by decide)
    · have := Int.mul_nonneg hl.1 (by omega : 0 ≤ z)
      rw [Int.mul_neg]
      omega
  rw [Int.mul_neg] at h5
  omega
theorem wSum_rng {lv sk : Nat → Int} {x : Nat} {wh du : Int} {n : Nat} (hl : ∀ i, i < 100 → 0 ≤ lv i ∧ lv i ≤ 1000) (hs : ∀ i, i < 100 → 0 ≤ sk i ∧ sk i ≤ 365) (hw : 0 ≤ wh ∧ wh ≤ 400) (hd : 0 ≤ du ∧ du ≤ 400) (hn : n ≤ 50) : -50000000000 ≤ wSum lv sk x wh du n ∧ wSum lv sk x wh du n ≤ 50000000000 := by
  have h := sm_rng (f := fun t => lvA lv (x + t) * (lvA sk (x + t) * wh - 52 * du)) (a := -1000000000) (b := 1000000000) (n := n) (fun k _ => wT_rng (lvA_rng (by decide) hl _) (lvA_rng (by decide) hs _) hw hd)
  unfold wSum
  omega
def xAge (I : Nat → Nat → Int) (t m : Nat) : Nat := (I 25 m).toNat + (t - jn I m) / 52
section MWo
variable {l : Launch} {E : zEnv} {n : Nat} {sh : Nat → Nat × Nat} {I : Nat → Nat → Int} {P : Nat → Nat → Option Nat}
set_option maxHeartbeats 4000000 in
set_option maxRecDepth 100000 in
theorem l2_X7_worth (hM : yM n sh P) {t mc rc pc : Nat} (ht : I 24 0 = (t : Int)) (ht3 : t ≤ 300) (hmc : I 24 1 = (mc : Int)) (hmc4 : mc ≤ 40) (hrc : I 24 2 = (rc : Int)) (hrc2 : rc ≤ 200) (hpc : I 24 3 = (pc : Int)) (hpc2 : pc ≤ 200) (hR : yRl I 29 rc) (hpap : mPap I pc t) (hjo : ∀ i, i < mc → 0 ≤ I 27 i ∧ I 27 i ≤ (t : Int)) (hpd : ∀ i, 0 ≤ I 28 i) (hps : ∀ m, m < mc → sm (pd I m) 301 ≤ 1000000) (hage : ∀ i, i < mc → 16 ≤ I 25 i ∧ I 25 i ≤ 60) (hlv : ∀ i, i < 100 → 0 ≤ I 43 i ∧ I 43 i ≤ 1000) (hsk : ∀ i, i < 100 → 0 ≤ I 44 i ∧ I 44 i ≤ 365) {m0 yr : Nat} {a : Int} (hm0 : m0 < mc) (hyr : 1 ≤ yr ∧ yr ≤ 50) (ha : 0 ≤ a ∧ a ≤ 1) (hal : (lvA (I 43) (xAge I t m0)) ≠ 0) : ∀ y : Nat, ∀ x : Nat, (x ≤ 50000000000 ∧ y ≤ 1000) → Nat.gcd x y = Int.gcd (wSum (I 43) (I 44) (xAge I t m0) (vF I (t : Int) rc 2 t) (vF I (t : Int) rc 0 t) yr) (lvA (I 43) (xAge I t m0)) → Z l E jX7_worth (rm 2 47) (yE E 0 0 (yR (some (.long (iL (wRes (wSum (I 43) (I 44) (xAge I t m0) (vF I (t : Int) rc 2 t) (vF I (t : Int) rc 0 t) yr) (lvA (I 43) (xAge I t m0)) a)))) n sh I P)) 0 0 (zw E n sh I P) 189 [(0, .ref (zb E + 24)), (1, .int (iI m0)), (2, .int (iI yr)), (3, .int (iI a)), (4, .int (iI (xAge I t m0))), (5, .long (iL (lvA (I 43) (xAge I t m0)))), (7, .long (iL (vF I (t : Int) rc 2 t))), (9, .long (iL (vF I (t : Int) rc 0 t))), (11, .long (iL (wSum (I 43) (I 44) (xAge I t m0) (vF I (t : Int) rc 2 t) (vF I (t : Int) rc 0 t) yr))), (13, .long (iL (x : Int))), (15, .long (iL (y : Int)))] [] := by
  have hwh := vF_rng (I := I) (q := (t : Int)) (w := t) hR (by decide : 2 < 7)
  have hdu := vF_rng (I := I) (q := (t : Int)) (w := t) hR (by decide : 0 < 7)
  have hSr := wSum_rng (x := (xAge I t m0)) (n := yr) hlv hsk hwh hdu (by omega)
  have hAr := lvA_rng (r := I 43) (by decide) hlv (xAge I t m0)
  refine zloop (fun y : Nat => y) (fun y ih x hxy hg => ?_)
  refine z_lload dX7_worth_189 rfl ?_
  refine z_lconst 0 dX7_worth_191 rfl ?_
  refine z_lcmp dX7_worth_192 ?_
  refine z_ifx_eq 214 dX7_worth_193 (by decide) (fun c_193 => ?_) (fun c_193 => ?_)
  · have hb0 : (y : Int) = 0 := (lgc_0 (by omega) (by omega)).mp c_193
    have hy0 : y = 0 := by omega
    subst hy0
    rw [Nat.gcd_zero_right] at hg
    have hgp : 0 < Int.gcd (wSum (I 43) (I 44) (xAge I t m0) (vF I (t : Int) rc 2 t) (vF I (t : Int) rc 0 t) yr) (lvA (I 43) (xAge I t m0)) := Nat.pos_of_ne_zero (fun h => hal (Int.gcd_eq_zero_iff.mp h).2)
    have hxp : 0 < x := by omega
    have hnz : ¬ iL (x : Int) = 0 := fun h => by have h2 := (iL_eq (by omega) (by omega)).mp (h.trans iL_0.symm); omega
    refine z_iload_n dX7_worth_214 rfl ?_
    refine z_if_ne 226 dX7_worth_215 (by decide) (by omega) (fun c_215 => ?_) (fun c_215 => ?_)
    · refine z_lload dX7_worth_226 rfl ?_
      refine z_lload dX7_worth_228 rfl ?_
      refine z_ldiv dX7_worth_230 hnz ?_
      refine z_topl (iL (((lvA (I 43) (xAge I t m0))).tdiv (x : Int))) (iL_div (by omega) (by omega)) ?_
      refine y_lreturn dX7_worth_231 rfl ?_
      unfold wRes
      first | (rw [if_pos (by omega), ← hg]; exact yR_rfl) | (rw [if_neg (by omega), ← hg]; exact yR_rfl)
    · refine z_lload dX7_worth_218 rfl ?_
      refine z_lload dX7_worth_220 rfl ?_
      refine z_ldiv dX7_worth_222 hnz ?_
      refine z_topl (iL (((wSum (I 43) (I 44) (xAge I t m0) (vF I (t : Int) rc 2 t) (vF I (t : Int) rc 0 t) yr)).tdiv (x : Int))) (iL_div (by omega) (by omega)) ?_
      refine z_goto 231 dX7_worth_223 (by decide) ?_
      refine y_lreturn dX7_worth_231 rfl ?_
      unfold wRes
      first | (rw [if_pos (by omega), ← hg]; exact yR_rfl) | (rw [if_neg (by omega), ← hg]; exact yR_rfl)
  · have hb0 : ¬ (y : Int) = 0 := fun h => c_193 ((lgc_0 (by omega) (by omega)).mpr h)
    have hbz : ¬ iL (y : Int) = 0 := fun h => hb0 ((iL_eq (by omega) (by omega)).mp (h.trans iL_0.symm))
    refine z_lload dX7_worth_196 rfl ?_
    refine z_lload dX7_worth_198 rfl ?_
    refine z_lrem dX7_worth_200 hbz ?_
    refine z_topl (iL ((x % y : Nat) : Int)) (iL_rem (by omega) (by omega)) ?_
    refine z_lstore dX7_worth_201 (by decide) ?_
    refine z_lload dX7_worth_203 rfl ?_
    refine z_lstore dX7_worth_205 (by decide) ?_
    refine z_lload dX7_worth_207 rfl ?_
    refine z_lstore dX7_worth_209 (by decide) ?_
    refine z_goto 189 dX7_worth_211 (by decide) ?_
    refine z_keys [0, 1, 2, 3, 4, 5, 7, 9, 11, 13, 15] ?_
    have hml : x % y < y := Nat.mod_lt _ (by omega)
    exact ih (x % y) (by omega) y ⟨by omega, by omega⟩ (by rw [Nat.gcd_comm, ← Nat.gcd_rec, Nat.gcd_comm]; exact hg)
set_option maxHeartbeats 4000000 in
set_option maxRecDepth 100000 in
theorem l1_X7_worth (hM : yM n sh P) {t mc rc pc : Nat} (ht : I 24 0 = (t : Int)) (ht3 : t ≤ 300) (hmc : I 24 1 = (mc : Int)) (hmc4 : mc ≤ 40) (hrc : I 24 2 = (rc : Int)) (hrc2 : rc ≤ 200) (hpc : I 24 3 = (pc : Int)) (hpc2 : pc ≤ 200) (hR : yRl I 29 rc) (hpap : mPap I pc t) (hjo : ∀ i, i < mc → 0 ≤ I 27 i ∧ I 27 i ≤ (t : Int)) (hpd : ∀ i, 0 ≤ I 28 i) (hps : ∀ m, m < mc → sm (pd I m) 301 ≤ 1000000) (hage : ∀ i, i < mc → 16 ≤ I 25 i ∧ I 25 i ≤ 60) (hlv : ∀ i, i < 100 → 0 ≤ I 43 i ∧ I 43 i ≤ 1000) (hsk : ∀ i, i < 100 → 0 ≤ I 44 i ∧ I 44 i ≤ 365) {m0 yr : Nat} {a : Int} (hm0 : m0 < mc) (hyr : 1 ≤ yr ∧ yr ≤ 50) (ha : 0 ≤ a ∧ a ≤ 1) (hal : (lvA (I 43) (xAge I t m0)) ≠ 0) : ∀ i : Nat, i ≤ yr → Z l E jX7_worth (rm 2 47) (yE E 0 0 (yR (some (.long (iL (wRes (wSum (I 43) (I 44) (xAge I t m0) (vF I (t : Int) rc 2 t) (vF I (t : Int) rc 0 t) yr) (lvA (I 43) (xAge I t m0)) a)))) n sh I P)) 0 0 (zw E n sh I P) 120 [(0, .ref (zb E + 24)), (1, .int (iI m0)), (2, .int (iI yr)), (3, .int (iI a)), (4, .int (iI (xAge I t m0))), (5, .long (iL (lvA (I 43) (xAge I t m0)))), (7, .long (iL (vF I (t : Int) rc 2 t))), (9, .long (iL (vF I (t : Int) rc 0 t))), (11, .long (iL (wSum (I 43) (I 44) (xAge I t m0) (vF I (t : Int) rc 2 t) (vF I (t : Int) rc 0 t) i))), (13, .int (iI i))] [] := by
  have hwh := vF_rng (I := I) (q := (t : Int)) (w := t) hR (by decide : 2 < 7)
  have hdu := vF_rng (I := I) (q := (t : Int)) (w := t) hR (by decide : 0 < 7)
  have hSr := wSum_rng (x := (xAge I t m0)) (n := yr) hlv hsk hwh hdu (by omega)
  have hAr := lvA_rng (r := I 43) (by decide) hlv (xAge I t m0)
  have hxa : (xAge I t m0) ≤ 66 := by have h1 := hage m0 hm0; unfold xAge; omega
  refine zloop (fun i : Nat => yr - i) (fun i ih hi0 => ?_)
  refine z_iload dX7_worth_120 rfl ?_
  refine z_iload_n dX7_worth_122 rfl ?_
  refine z_icmp_ge 168 dX7_worth_123 (by decide) (by omega) (by omega) (fun c_123 => ?_) (fun c_123 => ?_)
  · have ei : i = yr := by omega
    subst ei
    refine z_lload dX7_worth_168 rfl ?_
    refine z_lconst 0 dX7_worth_170 rfl ?_
    refine z_lcmp dX7_worth_171 ?_
    refine z_ifx_ge 181 dX7_worth_172 (by decide) (fun c_172 => ?_) (fun c_172 => ?_)
    · have hpos : 0 ≤ (wSum (I 43) (I 44) (xAge I t m0) (vF I (t : Int) rc 2 t) (vF I (t : Int) rc 0 t) i) := (lgc_ge (by omega) (by omega)).mp c_172
      refine z_lload dX7_worth_181 rfl ?_
      refine z_lstore dX7_worth_183 (by decide) ?_
      refine z_lload dX7_worth_185 rfl ?_
      refine z_lstore dX7_worth_187 (by decide) ?_
      refine z_keys [0, 1, 2, 3, 4, 5, 7, 9, 11, 13, 15] ?_
      obtain ⟨y0, hy0⟩ : ∃ y0 : Nat, (lvA (I 43) (xAge I t m0)) = (y0 : Int) := ⟨((lvA (I 43) (xAge I t m0))).toNat, by omega⟩
      obtain ⟨x0, hx0⟩ : ∃ x0 : Nat, ((wSum (I 43) (I 44) (xAge I t m0) (vF I (t : Int) rc 2 t) (vF I (t : Int) rc 0 t) i)) = (x0 : Int) := ⟨(((wSum (I 43) (I 44) (xAge I t m0) (vF I (t : Int) rc 2 t) (vF I (t : Int) rc 0 t) i))).toNat, by omega⟩
      have h5 := l2_X7_worth (l := l) (E := E) hM ht ht3 hmc hmc4 hrc hrc2 hpc hpc2 hR hpap hjo hpd hps hage hlv hsk hm0 hyr ha hal y0 x0 ⟨by omega, by omega⟩ (by unfold Int.gcd; rw [show ((wSum (I 43) (I 44) (xAge I t m0) (vF I (t : Int) rc 2 t) (vF I (t : Int) rc 0 t) i)).natAbs = x0 by omega, show ((lvA (I 43) (xAge I t m0))).natAbs = y0 by omega])
      rw [← hy0, ← hx0] at h5
      exact h5
    · have hneg : ¬ 0 ≤ (wSum (I 43) (I 44) (xAge I t m0) (vF I (t : Int) rc 2 t) (vF I (t : Int) rc 0 t) i) := fun h => c_172 ((lgc_ge (by omega) (by omega)).mpr h)
      refine z_lload dX7_worth_175 rfl ?_
      refine z_lneg dX7_worth_177 ?_
      refine z_goto 183 dX7_worth_178 (by decide) ?_
      refine z_lstore dX7_worth_183 (by decide) ?_
      refine z_lload dX7_worth_185 rfl ?_
      refine z_lstore dX7_worth_187 (by decide) ?_
      refine z_keys [0, 1, 2, 3, 4, 5, 7, 9, 11, 13, 15] ?_
      obtain ⟨y0, hy0⟩ : ∃ y0 : Nat, (lvA (I 43) (xAge I t m0)) = (y0 : Int) := ⟨((lvA (I 43) (xAge I t m0))).toNat, by omega⟩
      obtain ⟨x0, hx0⟩ : ∃ x0 : Nat, (-(wSum (I 43) (I 44) (xAge I t m0) (vF I (t : Int) rc 2 t) (vF I (t : Int) rc 0 t) i)) = (x0 : Int) := ⟨((-(wSum (I 43) (I 44) (xAge I t m0) (vF I (t : Int) rc 2 t) (vF I (t : Int) rc 0 t) i))).toNat, by omega⟩
      have h5 := l2_X7_worth (l := l) (E := E) hM ht ht3 hmc hmc4 hrc hrc2 hpc hpc2 hR hpap hjo hpd hps hage hlv hsk hm0 hyr ha hal y0 x0 ⟨by omega, by omega⟩ (by unfold Int.gcd; rw [show ((wSum (I 43) (I 44) (xAge I t m0) (vF I (t : Int) rc 2 t) (vF I (t : Int) rc 0 t) i)).natAbs = x0 by omega, show ((lvA (I 43) (xAge I t m0))).natAbs = y0 by omega])
      rw [← hy0, ← hx0] at h5
      exact h5
  · have g1 := lvA_rng (r := I 43) (by decide) hlv ((xAge I t m0) + i)
    have g2 := lvA_rng (r := I 44) (by decide) hsk ((xAge I t m0) + i)
    refine z_lload dX7_worth_126 rfl ?_
    refine z_aload_n dX7_worth_128 rfl ?_
    refine z_iload dX7_worth_129 rfl ?_
    refine z_iload dX7_worth_131 rfl ?_
    refine z_iadd dX7_worth_133 ?_
    refine z_top ((((xAge I t m0) + i : Nat) : Int)) (by omega) ?_
    refine y_callV dX7_worth_134 kX7_169 (c_X7_livingAt (x := (xAge I t m0) + i) hM (by omega)) (hM.lt (by decide)) (hM.2.1 24 (by decide)) rfl rfl rfl (Nat.le_of_ble_eq_true rfl) ⟨⟨by decide, by decide⟩, by decide, by decide⟩ (fun v134 n134 sh134 I134 P134 hp134 => ?_)
    obtain ⟨rfl, rfl, rfl, rfl, rfl⟩ := hp134
    refine z_top (lvA (I 43) ((xAge I t m0) + i)) rfl ?_
    refine z_i2l dX7_worth_137 (by omega) ?_
    refine z_aload_n dX7_worth_138 rfl ?_
    refine z_iload dX7_worth_139 rfl ?_
    refine z_iload dX7_worth_141 rfl ?_
    refine z_iadd dX7_worth_143 ?_
    refine z_top ((((xAge I t m0) + i : Nat) : Int)) (by omega) ?_
    refine y_callV dX7_worth_144 kX7_172 (c_X7_sickAt (x := (xAge I t m0) + i) hM (by omega)) (hM.lt (by decide)) (hM.2.1 24 (by decide)) rfl rfl rfl (Nat.le_of_ble_eq_true rfl) ⟨⟨by decide, by decide⟩, by decide, by decide⟩ (fun v144 n144 sh144 I144 P144 hp144 => ?_)
    obtain ⟨rfl, rfl, rfl, rfl, rfl⟩ := hp144
    refine z_top (lvA (I 44) ((xAge I t m0) + i)) rfl ?_
    refine z_i2l dX7_worth_147 (by omega) ?_
    refine z_lload dX7_worth_148 rfl ?_
    refine z_lmul dX7_worth_150 ?_
    refine z_ldc2 _ dX7_worth_151 qX7_175 ?_
    refine z_lload dX7_worth_154 rfl ?_
    refine z_lmul dX7_worth_156 ?_
    refine z_lsub dX7_worth_157 ?_
    refine z_lmul dX7_worth_158 ?_
    refine z_ladd dX7_worth_159 ?_
    refine z_lstore dX7_worth_160 (by decide) ?_
    refine z_iinc dX7_worth_162 rfl (by decide) ?_
    refine z_goto 120 dX7_worth_165 (by decide) ?_
    refine z_keys [0, 1, 2, 3, 4, 5, 7, 9, 11, 13] ?_
    exact ih (i + 1) (by omega) (by omega)
set_option maxHeartbeats 4000000 in
set_option maxRecDepth 100000 in
theorem c_X7_worth (hM : yM n sh P) {t mc rc pc : Nat} (ht : I 24 0 = (t : Int)) (ht3 : t ≤ 300) (hmc : I 24 1 = (mc : Int)) (hmc4 : mc ≤ 40) (hrc : I 24 2 = (rc : Int)) (hrc2 : rc ≤ 200) (hpc : I 24 3 = (pc : Int)) (hpc2 : pc ≤ 200) (hR : yRl I 29 rc) (hpap : mPap I pc t) (hjo : ∀ i, i < mc → 0 ≤ I 27 i ∧ I 27 i ≤ (t : Int)) (hpd : ∀ i, 0 ≤ I 28 i) (hps : ∀ m, m < mc → sm (pd I m) 301 ≤ 1000000) (hage : ∀ i, i < mc → 16 ≤ I 25 i ∧ I 25 i ≤ 60) (hlv : ∀ i, i < 100 → 0 ≤ I 43 i ∧ I 43 i ≤ 1000) (hsk : ∀ i, i < 100 → 0 ≤ I 44 i ∧ I 44 i ≤ 365) {m y a : Int} (hm : (-2147483648 ≤ m ∧ m ≤ 2147483647)) (hy : (-2147483648 ≤ y ∧ y ≤ 2147483647)) (ha : (-2147483648 ≤ a ∧ a ≤ 2147483647)) : yC l E jX7_worth (rm 2 47) [.ref (zb E + 24), .int (iI m), .int (iI y), .int (iI a)] n sh I P (yR (some (.long (iL (if ((0 ≤ m ∧ m < (mc : Int)) ∧ (1 ≤ y ∧ y ≤ 50) ∧ (0 ≤ a ∧ a ≤ 1) ∧ lvA (I 43) (xAge I t m.toNat) ≠ 0) then wRes (wSum (I 43) (I 44) (xAge I t m.toNat) (vF I (t : Int) rc 2 t) (vF I (t : Int) rc 0 t) y.toNat) (lvA (I 43) (xAge I t m.toNat)) a else -1000000)))) n sh I P) := by
  refine yC_of (by decide) (Nat.le_of_ble_eq_true rfl) ?_
  refine z_aload_n dX7_worth_0 rfl ?_
  refine z_iload_n dX7_worth_1 rfl ?_
  refine y_callV dX7_worth_2 kX7_132 (c_X7_isMember hM (by omega) (by omega)) (hM.lt (by decide)) (hM.2.1 24 (by decide)) rfl rfl rfl (Nat.le_of_ble_eq_true rfl) ⟨⟨by decide, by decide⟩, by decide, by decide⟩ (fun v2 n2 sh2 I2 P2 hp2 => ?_)
  obtain ⟨rfl, rfl, rfl, rfl, rfl⟩ := hp2
  refine z_if_eq 27 dX7_worth_5 (by decide) (bI_rng _) (fun c_5 => ?_) (fun c_5 => ?_)
  · have c_5 := bI_0 c_5
    refine z_ldc2 _ dX7_worth_27 qX7_167 ?_
    refine y_lreturn dX7_worth_30 rfl ?_
    rw [if_neg (fun h => by omega)]
    exact yR_rfl
  · have c_5 := bI_1 c_5
    refine z_iload_n dX7_worth_8 rfl ?_
    refine z_iconst dX7_worth_9 ?_
    refine z_bipush dX7_worth_10 rfl ?_
    refine y_callS dX7_worth_12 kX7_96 (c_X7_in hy (by omega) (by omega)) rfl rfl (Nat.le_of_ble_eq_true rfl) ⟨⟨by decide, by decide⟩, by decide, by decide⟩ (fun v12 n12 sh12 I12 P12 hp12 => ?_)
    obtain ⟨rfl, rfl, rfl, rfl, rfl⟩ := hp12
    refine z_if_eq 27 dX7_worth_15 (by decide) (bI_rng _) (fun c_15 => ?_) (fun c_15 => ?_)
    · have c_15 := bI_0 c_15
      refine z_ldc2 _ dX7_worth_27 qX7_167 ?_
      refine y_lreturn dX7_worth_30 rfl ?_
      rw [if_neg (fun h => by omega)]
      exact yR_rfl
    · have c_15 := bI_1 c_15
      refine z_iload_n dX7_worth_18 rfl ?_
      refine z_iconst dX7_worth_19 ?_
      refine z_iconst dX7_worth_20 ?_
      refine y_callS dX7_worth_21 kX7_96 (c_X7_in ha (by omega) (by omega)) rfl rfl (Nat.le_of_ble_eq_true rfl) ⟨⟨by decide, by decide⟩, by decide, by decide⟩ (fun v21 n21 sh21 I21 P21 hp21 => ?_)
      obtain ⟨rfl, rfl, rfl, rfl, rfl⟩ := hp21
      refine z_if_ne 31 dX7_worth_24 (by decide) (bI_rng _) (fun c_24 => ?_) (fun c_24 => ?_)
      · have c_24 := bI_1 c_24
        obtain ⟨m0, rfl⟩ : ∃ m0 : Nat, m = m0 := ⟨m.toNat, by omega⟩
        obtain ⟨yr, rfl⟩ : ∃ yr : Nat, y = yr := ⟨y.toNat, by omega⟩
        simp only [Int.toNat_natCast]
        have hj0 := hjo m0 (by omega)
        have hag := hage m0 (by omega)
        have hxa : (xAge I t m0) ≤ 66 := by unfold xAge; omega
        have hAr := lvA_rng (r := I 43) (by decide) hlv (xAge I t m0)
        have hwh := vF_rng (I := I) (q := (t : Int)) (w := t) hR (by decide : 2 < 7)
        have hdu := vF_rng (I := I) (q := (t : Int)) (w := t) hR (by decide : 0 < 7)
        refine z_aload_n dX7_worth_31 rfl ?_
        refine y_getR dX7_worth_32 fX7_9 (hM.lt (by decide)) (hM.2.1 24 (by decide)) rfl (hM.2.2 5) ?_
        refine z_iload_n dX7_worth_35 rfl ?_
        refine y_ialoadJ (m0) dX7_worth_36 (hM.lt (by decide)) (hM.2.1 25 (by decide)) (by omega) (by decide) ?_
        refine z_aload_n dX7_worth_37 rfl ?_
        refine y_getI dX7_worth_38 fX7_100 (hM.lt (by decide)) (hM.2.1 24 (by decide)) rfl ?_
        refine z_top ((t : Int)) (ht) ?_
        refine z_aload_n dX7_worth_41 rfl ?_
        refine y_getR dX7_worth_42 fX7_16 (hM.lt (by decide)) (hM.2.1 24 (by decide)) rfl (hM.2.2 7) ?_
        refine z_iload_n dX7_worth_45 rfl ?_
        refine y_ialoadJ (m0) dX7_worth_46 (hM.lt (by decide)) (hM.2.1 27 (by decide)) (by omega) (by decide) ?_
        refine z_isub dX7_worth_47 ?_
        refine z_bipush dX7_worth_48 rfl ?_
        refine z_idiv dX7_worth_50 (by omega) (by omega) ?_
        refine z_iadd dX7_worth_51 ?_
        refine z_top ((((xAge I t m0) : Nat) : Int)) (by rw [Int.tdiv_eq_ediv_of_nonneg (by omega)]; unfold xAge jn; omega) ?_
        refine z_istore dX7_worth_52 (by decide) ?_
        refine z_aload_n dX7_worth_54 rfl ?_
        refine z_iload dX7_worth_55 rfl ?_
        refine y_callV dX7_worth_57 kX7_169 (c_X7_livingAt (x := (xAge I t m0)) hM (by omega)) (hM.lt (by decide)) (hM.2.1 24 (by decide)) rfl rfl rfl (Nat.le_of_ble_eq_true rfl) ⟨⟨by decide, by decide⟩, by decide, by decide⟩ (fun v57 n57 sh57 I57 P57 hp57 => ?_)
        obtain ⟨rfl, rfl, rfl, rfl, rfl⟩ := hp57
        refine z_top (lvA (I 43) (xAge I t m0)) rfl ?_
        refine z_i2l dX7_worth_60 (by omega) ?_
        refine z_lstore dX7_worth_61 (by decide) ?_
        refine z_lload dX7_worth_63 rfl ?_
        refine z_lconst 0 dX7_worth_65 rfl ?_
        refine z_lcmp dX7_worth_66 ?_
        refine z_ifx_ne 74 dX7_worth_67 (by decide) (fun c_67 => ?_) (fun c_67 => ?_)
        · have h0 : (lvA (I 43) (xAge I t m0)) ≠ 0 := fun h => c_67 ((lgc_0 (by omega) (by omega)).mpr h)
          rw [if_pos ⟨by omega, by omega, by omega, h0⟩]
          refine z_aload_n dX7_worth_74 rfl ?_
          refine z_iconst dX7_worth_75 ?_
          refine z_aload_n dX7_worth_76 rfl ?_
          refine y_getI dX7_worth_77 fX7_100 (hM.lt (by decide)) (hM.2.1 24 (by decide)) rfl ?_
          refine z_top ((t : Int)) (ht) ?_
          refine z_aload_n dX7_worth_80 rfl ?_
          refine y_getI dX7_worth_81 fX7_100 (hM.lt (by decide)) (hM.2.1 24 (by decide)) rfl ?_
          refine z_top ((t : Int)) (ht) ?_
          refine z_aload_n dX7_worth_84 rfl ?_
          refine y_getI dX7_worth_85 fX7_137 (hM.lt (by decide)) (hM.2.1 24 (by decide)) rfl ?_
          refine z_top ((rc : Int)) (hrc) ?_
          refine y_callV dX7_worth_88 kX7_110 (c_X7_inForce (w := (t : Int)) (q := (t : Int)) (many := rc) hM (k := 2) (by omega) (by omega) (by omega) (by omega) hR) (hM.lt (by decide)) (hM.2.1 24 (by decide)) rfl rfl rfl (Nat.le_of_ble_eq_true rfl) ⟨⟨by decide, by decide⟩, by decide, by decide⟩ (fun v88 n88 sh88 I88 P88 hp88 => ?_)
          obtain ⟨rfl, rfl, rfl, rfl, rfl⟩ := hp88
          refine z_top (vF I (t : Int) rc 2 t) rfl ?_
          refine z_i2l dX7_worth_91 (by omega) ?_
          refine z_lstore dX7_worth_92 (by decide) ?_
          refine z_aload_n dX7_worth_94 rfl ?_
          refine z_iconst dX7_worth_95 ?_
          refine z_aload_n dX7_worth_96 rfl ?_
          refine y_getI dX7_worth_97 fX7_100 (hM.lt (by decide)) (hM.2.1 24 (by decide)) rfl ?_
          refine z_top ((t : Int)) (ht) ?_
          refine z_aload_n dX7_worth_100 rfl ?_
          refine y_getI dX7_worth_101 fX7_100 (hM.lt (by decide)) (hM.2.1 24 (by decide)) rfl ?_
          refine z_top ((t : Int)) (ht) ?_
          refine z_aload_n dX7_worth_104 rfl ?_
          refine y_getI dX7_worth_105 fX7_137 (hM.lt (by decide)) (hM.2.1 24 (by decide)) rfl ?_
          refine z_top ((rc : Int)) (hrc) ?_
          refine y_callV dX7_worth_108 kX7_110 (c_X7_inForce (w := (t : Int)) (q := (t : Int)) (many := rc) hM (k := 0) (by omega) (by omega) (by omega) (by omega) hR) (hM.lt (by decide)) (hM.2.1 24 (by decide)) rfl rfl rfl (Nat.le_of_ble_eq_true rfl) ⟨⟨by decide, by decide⟩, by decide, by decide⟩ (fun v108 n108 sh108 I108 P108 hp108 => ?_)
          obtain ⟨rfl, rfl, rfl, rfl, rfl⟩ := hp108
          refine z_top (vF I (t : Int) rc 0 t) rfl ?_
          refine z_i2l dX7_worth_111 (by omega) ?_
          refine z_lstore dX7_worth_112 (by decide) ?_
          refine z_lconst 0 dX7_worth_114 rfl ?_
          refine z_lstore dX7_worth_115 (by decide) ?_
          refine z_iconst dX7_worth_117 ?_
          refine z_istore dX7_worth_118 (by decide) ?_
          refine z_keys [0, 1, 2, 3, 4, 5, 7, 9, 11, 13] ?_
          exact l1_X7_worth hM ht ht3 hmc hmc4 hrc hrc2 hpc hpc2 hR hpap hjo hpd hps hage hlv hsk (by omega) (by omega) (by omega) h0 0 (by omega)
        · have h0 : (lvA (I 43) (xAge I t m0)) = 0 := (lgc_0 (by omega) (by omega)).mp c_67
          refine z_ldc2 _ dX7_worth_70 qX7_167 ?_
          refine y_lreturn dX7_worth_73 rfl ?_
          rw [if_neg (fun h => h.2.2.2 h0)]
          exact yR_rfl
      · have c_24 := bI_0 c_24
        refine z_ldc2 _ dX7_worth_27 qX7_167 ?_
        refine y_lreturn dX7_worth_30 rfl ?_
        rw [if_neg (fun h => by omega)]
        exact yR_rfl
end MWo
