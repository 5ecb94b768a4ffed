/-- know() has been called, and scratch written since -/
def mKw (I I' : Nat → Nat → Int) (q : Int) (many : Nat) : Prop := (∀ a b, ¬ (45 ≤ a ∧ a ≤ 51) → I' a b = zup I 24 26 q a b) ∧ ∀ k w : Nat, k < 7 → (w : Int) ≤ I 24 0 → I' 45 (301 * k + w) = (sFI I 29 k w q many).2
/-- I, with the scratch rows of I' -/
def mixI (I I' : Nat → Nat → Int) : Nat → Nat → Int := fun a b => if 46 ≤ a ∧ a ≤ 51 then I' a b else I a b
theorem mixR {I I' : Nat → Nat → Int} {a : Nat} (h : ¬ (46 ≤ a ∧ a ≤ 51)) : mixI I I' a = I a := by funext b; simp only [mixI, h, if_false]
theorem mKw.mx {I I' : Nat → Nat → Int} {q : Int} {many : Nat} (h : mKw I I' q many) : mKn (mixI I I') I' q many := by
  refine ⟨fun a b ha => ?_, fun k w hk hw => ?_⟩
  · by_cases h1 : 46 ≤ a ∧ a ≤ 51
    · simp only [zup, mixR (I := I) (I' := I') (a := 24) (by omega), show ¬ a = 24 by omega, false_and, if_false]
      simp only [mixI, h1, and_self, if_true]
    · rw [h.1 a b (by omega)]
      simp only [zup, mixR h1]
  · rw [mixR (by omega)] at hw
    rw [h.2 k w hk hw]
    rw [sFI_cong (I := I) (I' := mixI I I') (fun a h1 h2 => mixR (by omega))]
theorem GRm_cong {I I' : Nat → Nat → Int} (h : ∀ a, 25 ≤ a → a ≤ 38 → I' a = I a) (m q pc many w D : Nat) : GRm I' m q pc many w D = GRm I m q pc many w D := by
  have e1 : vF I' q many = vF I q many := by funext k w; unfold vF; rw [sFI_cong (I := I) (I' := I') (fun a h1 h2 => h a (by omega) (by omega))]
  have e2 : pd I' m = pd I m := by unfold pd; rw [h 28 (by omega) (by omega)]
  have e3 : jn I' m = jn I m := by unfold jn; rw [h 27 (by omega) (by omega)]
  unfold GRm SKm
  rw [e1, e2, e3, h 33 (by omega) (by omega), h 34 (by omega) (by omega), h 35 (by omega) (by omega), h 36 (by omega) (by omega), h 37 (by omega) (by omega)]
theorem GRm_rng {I : Nat → Nat → Int} {m q pc many w D : Nat} (hR : yRl I 29 many) : 0 ≤ GRm I m q pc many w D ∧ GRm I m q pc many w D ≤ D * 400 := by
  have h := sm_rng (f := fun d => if d / 7 = w then sCo (fun d => SKm I m q pc d) (vF I q many) (fun w => outB (vF I q many) (pd I m) (jn I m) q w) d else 0) (a := 0) (b := 400) (n := D) (fun k _ => by
    show 0 ≤ (if k / 7 = w then _ else _) ∧ (if k / 7 = w then _ else _) ≤ (400 : Int)
    split
    · unfold sCo
      split
      · split
        · exact ⟨by decide, by decide⟩
        · exact coi_rng (vF_rng hR (by decide))
      · exact ⟨by decide, by decide⟩
    · exact ⟨by decide, by decide⟩)
  rw [Int.mul_zero] at h
  exact h
/-- the difference of a WEEK, and how many are not 0 -/
def dfm (I : Nat → Nat → Int) (t rc pc m w : Nat) : Int := GRm I m t pc rc w (7 * t + 7) - bk I m w
def dn1 (I : Nat → Nat → Int) (t rc pc m w : Nat) : Int := sm (fun w => bI (¬ dfm I t rc pc m w = 0)) w
def dn2 (I : Nat → Nat → Int) (t rc pc m : Nat) : Int := sm (fun m => dn1 I t rc pc m (t + 1)) m
theorem sm_bI {p : Nat → Prop} {dp : ∀ k, Decidable (p k)} (n : Nat) : 0 ≤ sm (fun k => @bI (p k) (dp k)) n ∧ sm (fun k => @bI (p k) (dp k)) n ≤ n := by
  have h := sm_rng (f := fun k => @bI (p k) (dp k)) (a := 0) (b := 1) (n := n) (fun k _ => by
    have := @bI_or (p k) (dp k)
    show 0 ≤ @bI (p k) (dp k) ∧ @bI (p k) (dp k) ≤ 1
    omega)
  omega
theorem dn2_rng (I : Nat → Nat → Int) (t rc pc m : Nat) : 0 ≤ dn2 I t rc pc m ∧ dn2 I t rc pc m ≤ m * ((t : Int) + 1) := by
  have h := sm_rng (f := fun m => dn1 I t rc pc m (t + 1)) (a := 0) (b := (t : Int) + 1) (n := m) (fun k _ => by
    have := sm_bI (p := fun w => ¬ dfm I t rc pc k w = 0) (dp := fun _ => inferInstance) (t + 1)
    unfold dn1
    omega)
  rw [Int.mul_zero] at h
  exact h
/-- the state of the first two loops: members before m are worked, of m the weeks before w -/
def wA (I I' : Nat → Nat → Int) (t rc pc m w : Nat) : Prop := mKw I I' (t : Int) rc ∧ ∀ m' w' : Nat, w' ≤ t → (m' < m ∨ (m' = m ∧ w' < w)) → I' 51 (301 * m' + w') = dfm I t rc pc m' w'
section MWk
variable {l : Launch} {E : zEnv} {n : Nat} {sh : Nat → Nat × Nat} {I : Nat → Nat → Int} {P : Nat → Nat → Option Nat}
set_option maxHeartbeats 4000000 in
set_option maxRecDepth 100000 in
theorem l1b_X7_week (hM : yM n sh P) {t mc rc pc : Nat} (ht : I 24 0 = (t : Int)) (ht3 : t ≤ 300) (hmc : I 24 1 = (mc : Int)) (hmc4 : mc ≤ 40) (hrc : I 24 2 = (rc : Int)) (hrc2 : rc ≤ 200) (hpc : I 24 3 = (pc : Int)) (hpc2 : pc ≤ 200) (hR : yRl I 29 rc) (hpap : mPap I pc t) (hjo : ∀ i, i < mc → 0 ≤ I 27 i ∧ I 27 i ≤ (t : Int)) (hpd : ∀ i, 0 ≤ I 28 i) (hps : ∀ m, m < mc → sm (pd I m) 301 ≤ 1000000) (hbk : ∀ i, -1000000 ≤ I 38 i ∧ I 38 i ≤ 1000000) {K : zK} {m0 : Nat} (hm0 : m0 < mc) (hout : ∀ I', wA I I' t rc pc (m0 + 1) 0 → Z l E jX7_week (rm 4 96) K 0 0 (zw E n sh I' P) 28 [(0, .ref (zb E + 24)), (1, .int (iI (dn2 I t rc pc (m0 + 1)))), (2, .int (iI ((m0 : Int) + 1)))] []) : ∀ w : Nat, ∀ I', wA I I' t rc pc m0 w → (∀ w', w' ≤ t → I' 50 w' = GRm I m0 t pc rc w' (7 * t + 7)) → w ≤ t + 1 → Z l E jX7_week (rm 4 96) K 0 0 (zw E n sh I' P) 43 [(0, .ref (zb E + 24)), (1, .int (iI (dn2 I t rc pc m0 + dn1 I t rc pc m0 w))), (2, .int (iI m0)), (3, .int (iI w))] [] := by
  refine zloop (fun w : Nat => t + 1 - w) (fun w ih I' hA hG hw0 => ?_)
  have hn0 : I' 24 0 = (t : Int) := by rw [hA.1.1 24 0 (by omega)]; exact ht
  refine z_iload_n dX7_week_43 rfl ?_
  refine z_aload_n dX7_week_44 rfl ?_
  refine y_getI dX7_week_45 fX7_100 (hM.lt (by decide)) (hM.2.1 24 (by decide)) rfl ?_
  refine z_top ((t : Int)) (hn0) ?_
  refine z_icmp_gt 105 dX7_week_48 (by decide) (by omega) (by omega) (fun c_48 => ?_) (fun c_48 => ?_)
  · refine z_iinc dX7_week_105 rfl (by decide) ?_
    refine z_goto 28 dX7_week_108 (by decide) ?_
    refine z_keys [0, 1, 2] ?_
    have ew : w = t + 1 := by omega
    subst ew
    exact hout I' ⟨hA.1, fun m' w' h1 h2 => hA.2 m' w' h1 (by omega)⟩
  · have hw : w ≤ t := by omega
    refine z_aload_n dX7_week_51 rfl ?_
    refine y_getR dX7_week_52 fX7_86 (hM.lt (by decide)) (hM.2.1 24 (by decide)) rfl (hM.2.2 31) ?_
    refine z_iload_n dX7_week_55 rfl ?_
    refine y_ialoadJ (w) dX7_week_56 (hM.lt (by decide)) (hM.2.1 50 (by decide)) (by omega) (by decide) ?_
    rw [hG w hw]
    refine z_aload_n dX7_week_57 rfl ?_
    refine y_getR dX7_week_58 fX7_49 (hM.lt (by decide)) (hM.2.1 24 (by decide)) rfl (hM.2.2 18) ?_
    refine z_sipush dX7_week_61 rfl ?_
    refine z_iload_n dX7_week_64 rfl ?_
    refine z_imul dX7_week_65 ?_
    refine z_iload_n dX7_week_66 rfl ?_
    refine z_iadd dX7_week_67 ?_
    refine y_ialoadJ (301 * m0 + w) dX7_week_68 (hM.lt (by decide)) (hM.2.1 38 (by decide)) (by omega) (by decide) ?_
    refine z_top (bk I m0 w) (by rw [hA.1.1 38 _ (by omega)]; rfl) ?_
    refine z_isub dX7_week_69 ?_
    refine z_top (dfm I t rc pc m0 w) rfl ?_
    refine z_istore dX7_week_70 (by decide) ?_
    refine z_aload_n dX7_week_72 rfl ?_
    refine y_getR dX7_week_73 fX7_89 (hM.lt (by decide)) (hM.2.1 24 (by decide)) rfl (hM.2.2 32) ?_
    refine z_sipush dX7_week_76 rfl ?_
    refine z_iload_n dX7_week_79 rfl ?_
    refine z_imul dX7_week_80 ?_
    refine z_iload_n dX7_week_81 rfl ?_
    refine z_iadd dX7_week_82 ?_
    refine z_iload dX7_week_83 rfl ?_
    refine y_iastoreJ (301 * m0 + w) dX7_week_85 (hM.lt (by decide)) (hM.2.1 51 (by decide)) (by omega) (by decide) ?_
    have hgr := GRm_rng (I := I) (m := m0) (q := t) (pc := pc) (many := rc) (w := w) (D := 7 * t + 7) hR
    have hbb : -1000000 ≤ bk I m0 w ∧ bk I m0 w ≤ 1000000 := hbk _
    have hdf : -2147483648 ≤ dfm I t rc pc m0 w ∧ dfm I t rc pc m0 w ≤ 2147483647 := by unfold dfm; omega
    refine z_iload_n dX7_week_86 rfl ?_
    refine zcut 97 (bI (¬ dfm I t rc pc m0 w = 0)) ?_ (fun hc_87 => ?_)
    · refine z_iadd dX7_week_97 ?_
      refine z_istore_n dX7_week_98 (by decide) ?_
      refine z_iinc dX7_week_99 rfl (by decide) ?_
      refine z_goto 43 dX7_week_102 (by decide) ?_
      refine z_keys [0, 1, 2, 3] ?_
      have h5 := ih (w + 1) (by omega) (zup I' 51 (301 * m0 + w) (dfm I t rc pc m0 w)) ⟨⟨fun a b h => ?_, fun k' w' h1 h2 => ?_⟩, fun m' w' h1 h2 => ?_⟩ (by rw [zup_ne (by omega)]; exact hG) (by omega)
      · unfold dn1 at h5 ⊢
        rw [sm_succ, ← Int.add_assoc] at h5
        exact h5
      · rw [zup_ne (by omega)]; exact hA.1.1 a b h
      · rw [zup_ne (by omega)]; exact hA.1.2 k' w' h1 h2
      · by_cases e : 301 * m' + w' = 301 * m0 + w
        · have e1 : m' = m0 := by omega
          have e2 : w' = w := by omega
          subst e1; subst e2
          simp [zup]
        · simp only [zup, e, and_false, if_false]
          exact hA.2 m' w' h1 (by omega)
    · refine z_iload dX7_week_87 rfl ?_
      refine z_if_eq 96 dX7_week_89 (by decide) hdf (fun c_89 => ?_) (fun c_89 => ?_)
      · refine z_iconst dX7_week_96 ?_
        exact hc_87 _ (by first | (rw [bI_t c_89]; done) | (rw [bI_f (fun h => h c_89)]; done))
      · refine z_iconst dX7_week_92 ?_
        refine z_goto 97 dX7_week_93 (by decide) ?_
        exact hc_87 _ (by first | (rw [bI_t c_89]; done) | (rw [bI_f (fun h => h c_89)]; done))
set_option maxHeartbeats 4000000 in
set_option maxRecDepth 100000 in
theorem l1_X7_week (hM : yM n sh P) {t mc rc pc : Nat} (ht : I 24 0 = (t : Int)) (ht3 : t ≤ 300) (hmc : I 24 1 = (mc : Int)) (hmc4 : mc ≤ 40) (hrc : I 24 2 = (rc : Int)) (hrc2 : rc ≤ 200) (hpc : I 24 3 = (pc : Int)) (hpc2 : pc ≤ 200) (hR : yRl I 29 rc) (hpap : mPap I pc t) (hjo : ∀ i, i < mc → 0 ≤ I 27 i ∧ I 27 i ≤ (t : Int)) (hpd : ∀ i, 0 ≤ I 28 i) (hps : ∀ m, m < mc → sm (pd I m) 301 ≤ 1000000) (hbk : ∀ i, -1000000 ≤ I 38 i ∧ I 38 i ≤ 1000000) {K : zK} (hout : ∀ I', wA I I' t rc pc mc 0 → Z l E jX7_week (rm 4 96) K 0 0 (zw E n sh I' P) 111 [(0, .ref (zb E + 24)), (1, .int (iI (dn2 I t rc pc mc)))] []) : ∀ m0 : Nat, ∀ I', wA I I' t rc pc m0 0 → m0 ≤ mc → Z l E jX7_week (rm 4 96) K 0 0 (zw E n sh I' P) 28 [(0, .ref (zb E + 24)), (1, .int (iI (dn2 I t rc pc m0))), (2, .int (iI m0))] [] := by
  refine zloop (fun m0 : Nat => mc - m0) (fun m0 ih I' hA hm0 => ?_)
  refine z_iload_n dX7_week_28 rfl ?_
  refine z_aload_n dX7_week_29 rfl ?_
  refine y_getI dX7_week_30 fX7_92 (hM.lt (by decide)) (hM.2.1 24 (by decide)) rfl ?_
  refine z_top ((mc : Int)) (by rw [hA.1.1 24 1 (by omega)]; exact hmc) ?_
  refine z_icmp_ge 111 dX7_week_33 (by decide) (by omega) (by omega) (fun c_33 => ?_) (fun c_33 => ?_)
  · have em : m0 = mc := by omega
    subst em
    refine z_keys [0, 1] ?_
    exact hout I' hA
  · have hj0 := hjo m0 (by omega)
    have hk := hA.1.mx
    have htm : mixI I I' 24 0 = (t : Int) := by rw [mixR (by omega)]; exact ht
    have hRm : yRl (mixI I I') 29 rc := by intro r hr; rw [mixR (by omega), mixR (by omega), mixR (by omega), mixR (by omega)]; exact hR r hr
    refine z_aload_n dX7_week_36 rfl ?_
    refine z_iload_n dX7_week_37 rfl ?_
    refine y_callV dX7_week_38 kX7_154 (c_X7_go (I := I') (m := m0) (t := t) (q := t) (j := jn (mixI I I') m0) (pc := pc) hM (by omega) (by rw [kn_eq hk (by decide) (by decide), mixR (by omega)]; exact ht) ht3 (kn_q hk) (by omega) (by rw [kn_eq hk (by decide) (by decide), mixR (by omega)]; exact hpc) hpc2 (by rw [kn_eq hk (by decide) (by omega)]; unfold jn; rw [mixR (by omega)]; omega) (by unfold jn; rw [mixR (by omega)]; omega) (kn_pap hk (by intro p hp; rw [mixR (by omega), mixR (by omega), mixR (by omega), mixR (by omega), mixR (by omega)]; exact hpap p hp)) (fun k w h1 h2 => by rw [kn_V hk htm h1 h2]; exact vF_rng hRm h1) (fun w hw => by rw [kn_ow hk htm hw]; exact arr_ok hRm (by omega) (by rw [mixR (by omega)]; exact hpd) (by unfold pd; rw [mixR (by omega)]; exact hps m0 (by omega)))) (hM.lt (by decide)) (hM.2.1 24 (by decide)) rfl rfl rfl (Nat.le_of_ble_eq_true rfl) ⟨⟨by decide, by decide⟩, by decide, by decide⟩ (fun v38 n38 sh38 I38 P38 hp38 => ?_)
    obtain ⟨rfl, rfl, rfl, rfl, h38⟩ := hp38
    have hs := kn_go hk htm h38
    have hA2 : wA I I38 t rc pc m0 0 := ⟨⟨fun a b h => by rw [h38.1 a b (by omega)]; exact hA.1.1 a b h, fun k' w' h1 h2 => by rw [h38.1 45 _ (by omega)]; exact hA.1.2 k' w' h1 h2⟩, fun m' w' h1 h2 => by rw [h38.1 51 _ (by omega)]; exact hA.2 m' w' h1 h2⟩
    have hG2 : ∀ w', w' ≤ t → I38 50 w' = GRm I m0 t pc rc w' (7 * t + 7) := fun w' hw' => by rw [hs.2.2 w' hw', GRm_cong (I := I) (I' := mixI I I') (fun a h1 h2 => mixR (by omega))]
    refine z_iconst dX7_week_41 ?_
    refine z_istore_n dX7_week_42 (by decide) ?_
    refine z_keys [0, 1, 2, 3] ?_
    have h5 := l1b_X7_week (K := K) hM ht ht3 hmc hmc4 hrc hrc2 hpc hpc2 hR hpap hjo hpd hps hbk (m0 := m0) (by omega) (fun I'' h => ih (m0 + 1) (by omega) I'' h (by omega)) 0 I38 hA2 hG2 (by omega)
    have e0 : dn1 I t rc pc m0 0 = 0 := rfl
    rw [e0, Int.add_zero] at h5
    exact h5
end MWk
