/-! what is asked, over the reference's own rows: rules 29 .. 32, papers 33 .. 37, payments 28, booked 38 -/
/-- the value of kind k in the WEEK w, known in q, of the first many rules -/
def vF (I : Nat → Nat → Int) (q : Int) (many : Nat) (k w : Nat) : Int := (sFI I 29 k (w : Int) q many).2
def pd (I : Nat → Nat → Int) (m : Nat) : Nat → Int := fun k => I 28 (301 * m + k)
def bk (I : Nat → Nat → Int) (m : Nat) : Nat → Int := fun k => I 38 (301 * m + k)
def jn (I : Nat → Nat → Int) (m : Nat) : Nat := (I 27 m).toNat
/-- ARREARS by DUES and payments -/
def arr (du pa : Nat → Int) (j w q : Nat) : Int := (if j < w then sm du w - sm du j else 0) - sm pa (min w q + 1)
def outB (V : Nat → Nat → Int) (pa : Nat → Int) (j q w : Nat) : Bool := decide (V 6 w * V 0 w < arr (V 0) pa j w q)
theorem sOw_arr (I : Nat → Nat → Int) (m w q j : Nat) : sOw I m w q j = arr (I 45) (pd I m) j w q := rfl
theorem arr_cong {du du' pa pa' : Nat → Int} {j w q t : Nat} (hw : w ≤ t) (h1 : ∀ k, k ≤ t → du k = du' k) (h2 : ∀ k, k ≤ t → pa k = pa' k) : arr du pa j w q = arr du' pa' j w q := by
  unfold arr
  rw [sm_cong (f := pa) (g := pa') (n := min w q + 1) (fun k hk => h2 k (by omega))]
  by_cases h : j < w
  · rw [if_pos h, if_pos h, sm_cong (f := du) (g := du') (n := w) (fun k hk => h1 k (by omega)), sm_cong (f := du) (g := du') (n := j) (fun k hk => h1 k (by omega))]
  · rw [if_neg h, if_neg h]
theorem sm_mono {f : Nat → Int} {a : Nat} : ∀ {b : Nat}, a ≤ b → (∀ k, k < b → 0 ≤ f k) → sm f a ≤ sm f b
  | 0, h, _ => by rw [show a = 0 by omega]; exact Int.le_refl _
  | b + 1, h, h0 => by
    by_cases e : a = b + 1
    · rw [e]; exact Int.le_refl _
    · have h1 := sm_mono (f := f) (a := a) (b := b) (by omega) (fun k hk => h0 k (by omega))
      have h2 := h0 b (by omega)
      rw [sm]
      omega
theorem sm_nn {f : Nat → Int} {n : Nat} (h : ∀ k, k < n → 0 ≤ f k) : 0 ≤ sm f n := sm_mono (a := 0) (Nat.zero_le n) h
theorem arr_rng {du pa : Nat → Int} {j w q : Nat} {X : Int} (hw : w ≤ 300) (h1 : ∀ k, k < w → 0 ≤ du k ∧ du k ≤ 400) (h2 : ∀ k, k < 301 → 0 ≤ pa k) (h3 : sm pa 301 ≤ X) : -X ≤ arr du pa j w q ∧ arr du pa j w q ≤ 120000 := by
  have g1 : 0 ≤ sm pa (min w q + 1) := sm_nn (fun k hk => h2 k (by omega))
  have g2 : sm pa (min w q + 1) ≤ sm pa 301 := sm_mono (by omega) h2
  unfold arr
  by_cases h : j < w
  · rw [if_pos h]
    have g3 := sm_rng (f := du) (a := 0) (b := 400) (n := w) h1
    have g4 : 0 ≤ sm du j := sm_nn (fun k hk => (h1 k (by omega)).1)
    have g5 : sm du j ≤ sm du w := sm_mono (by omega) (fun k hk => (h1 k hk).1)
    omega
  · rw [if_neg h]
    omega
theorem sSt_cong {sk : Nat → Bool} {jo jo' : Nat → Int} {t : Nat} (h : ∀ w, w ≤ t → jo w = jo' w) : ∀ d, d ≤ 7 * t + 7 → sSt sk jo d = sSt sk jo' d
  | 0, _ => rfl
  | d + 1, hd => by rw [sSt_succ, sSt_succ, sSt_cong h d (by omega), h (d / 7) (by omega)]
theorem sSt_b (sk : Nat → Bool) (jo : Nat → Int) (d : Nat) : (sSt sk jo (d + 1)).2.1 ≤ d / 7 := by
  have h := (sSt_rng sk jo d).2.1
  rw [sSt_succ]
  split
  · split
    · exact Nat.le_refl _
    · exact h
  · exact h
theorem sCo_cong {sk : Nat → Bool} {V V' : Nat → Nat → Int} {out out' : Nat → Bool} {t : Nat} (hV : ∀ k w, k < 7 → w ≤ t → V k w = V' k w) (ho : ∀ w, w ≤ t → out w = out' w) {d : Nat} (hd : d < 7 * t + 7) : sCo sk V out d = sCo sk V' out' d := by
  have hb := sSt_b sk (V' 5) d
  unfold sCo
  rw [sSt_cong (t := t) (fun w hw => hV 5 w (by omega) hw) (d + 1) (by omega), ho (d / 7) (by omega), hV 2 (d / 7) (by omega) (by omega), hV 1 _ (by omega) (by omega : (sSt sk (V' 5) (d + 1)).2.1 ≤ t), hV 3 _ (by omega) (by omega : (sSt sk (V' 5) (d + 1)).2.1 ≤ t), hV 4 _ (by omega) (by omega : (sSt sk (V' 5) (d + 1)).2.1 ≤ t)]
theorem sWh_cong {sk : Nat → Bool} {V V' : Nat → Nat → Int} {out out' : Nat → Bool} {t : Nat} (hV : ∀ k w, k < 7 → w ≤ t → V k w = V' k w) (ho : ∀ w, w ≤ t → out w = out' w) {d : Nat} (hd : d < 7 * t + 7) : sWh sk V out d = sWh sk V' out' d := by
  have hb := sSt_b sk (V' 5) d
  unfold sWh
  rw [sSt_cong (t := t) (fun w hw => hV 5 w (by omega) hw) (d + 1) (by omega), ho (d / 7) (by omega), hV 1 _ (by omega) (by omega : (sSt sk (V' 5) (d + 1)).2.1 ≤ t), hV 3 _ (by omega) (by omega : (sSt sk (V' 5) (d + 1)).2.1 ≤ t), hV 4 _ (by omega) (by omega : (sSt sk (V' 5) (d + 1)).2.1 ≤ t)]
theorem sGr_cong {sk : Nat → Bool} {V V' : Nat → Nat → Int} {out out' : Nat → Bool} {t : Nat} (hV : ∀ k w, k < 7 → w ≤ t → V k w = V' k w) (ho : ∀ w, w ≤ t → out w = out' w) {w D : Nat} (hd : D ≤ 7 * t + 7) : sGr sk V out w D = sGr sk V' out' w D :=
  sm_cong (fun k hk => by
    by_cases h : k / 7 = w
    · rw [if_pos h, if_pos h]; exact sCo_cong hV ho (by omega)
    · rw [if_neg h, if_neg h])
/-- scratch: rows 45 .. 51, the slot knownIn, rules behind the told ones -/
def scF (I I' : Nat → Nat → Int) (rc : Nat) : Prop := ∀ a b, ¬ (45 ≤ a ∧ a ≤ 51) → ¬ (a = 24 ∧ b = 26) → ¬ (29 ≤ a ∧ a ≤ 32 ∧ rc ≤ b) → I' a b = I a b
theorem scF.rf {I : Nat → Nat → Int} {rc : Nat} : scF I I rc := fun _ _ _ _ _ => rfl
/-- spec: GRANT of a member's WEEK and nature of its DAY as known in q, by the first many rules, of which the last may be but supposed -/
def GRm (I : Nat → Nat → Int) (m q pc many w D : Nat) : Int := sGr (fun d => SKm I m q pc d) (vF I q many) (fun w => outB (vF I q many) (pd I m) (jn I m) q w) w D
def WHm (I : Nat → Nat → Int) (m q pc many d : Nat) : Int := sWh (fun d => SKm I m q pc d) (vF I q many) (fun w => outB (vF I q many) (pd I m) (jn I m) q w) d
section KN
variable {I I1 I2 : Nat → Nat → Int} {q many m t pc : Nat}
theorem kn_eq {q : Int} (hk : mKn I I1 q many) {a b : Nat} (h1 : a ≠ 45) (h2 : ¬ (a = 24 ∧ b = 26)) : I1 a b = I a b := by rw [hk.1 a b h1]; simp only [zup, h2, if_false]
theorem kn_row {q : Int} (hk : mKn I I1 q many) {a : Nat} (h1 : a ≠ 45) (h2 : a ≠ 24) : I1 a = I a := funext fun b => kn_eq hk h1 (fun h => h2 h.1)
theorem kn_q {q : Int} (hk : mKn I I1 q many) : I1 24 26 = q := by rw [hk.1 24 26 (by decide)]; simp [zup]
theorem kn_V {q : Int} (hk : mKn I I1 q many) (ht : I 24 0 = (t : Int)) {k w : Nat} (h1 : k < 7) (h2 : w ≤ t) : mV I1 k w = vF I q many k w := hk.2 k w h1 (by omega)
theorem kn_pap {q : Int} (hk : mKn I I1 q many) (hp : mPap I pc t) : mPap I1 pc t := by
  intro p h
  rw [kn_row hk (by decide) (by decide), kn_row hk (by decide) (by decide), kn_row hk (by decide) (by decide), kn_row hk (by decide) (by decide), kn_row hk (by decide) (by decide)]
  exact hp p h
theorem kn_ow {q : Int} (hk : mKn I I1 q many) (ht : I 24 0 = (t : Int)) {w q' j : Nat} (hw : w ≤ t) : sOw I1 m w q' j = arr (vF I q many 0) (pd I m) j w q' := by
  rw [sOw_arr]
  refine arr_cong (t := t) hw (fun k hk2 => ?_) (fun k hk2 => ?_)
  · have h := kn_V hk ht (k := 0) (w := k) (by omega) hk2
    unfold mV at h
    rw [show 301 * 0 + k = k by omega] at h
    exact h
  · unfold pd; rw [kn_row hk (by decide) (by decide)]
theorem vF_rng {q : Int} (hR : yRl I 29 many) {k w : Nat} (hk : k < 7) : 0 ≤ vF I q many k w ∧ vF I q many k w ≤ 400 := (sFI_rng hk hR).2
theorem arr_ok {I : Nat → Nat → Int} {q : Int} {many m j w q' : Nat} (hR : yRl I 29 many) (hw : w ≤ 300) (hpd : ∀ i, 0 ≤ I 28 i) (hps : sm (pd I m) 301 ≤ 1000000) : -2147483648 ≤ arr (vF I q many 0) (pd I m) j w q' ∧ arr (vF I q many 0) (pd I m) j w q' ≤ 2147483647 := by
  have h := arr_rng (du := vF I q many 0) (pa := pd I m) (j := j) (w := w) (q := q') (X := 1000000) hw (fun k _ => vF_rng hR (by decide)) (fun k _ => hpd (301 * m + k)) hps
  omega
theorem kn_out {q : Nat} (hk : mKn I I1 (q : Int) many) (ht : I 24 0 = (t : Int)) {w j : Nat} (hw : w ≤ t) : OUm I1 m q j w = outB (vF I q many) (pd I m) j q w := by
  unfold OUm outB
  rw [kn_V hk ht (by decide) hw, kn_V hk ht (by decide) hw, kn_ow hk ht hw]
theorem kn_go {q : Nat} (hk : mKn I I1 (q : Int) many) (ht : I 24 0 = (t : Int)) (hg : mGo I1 I2 m q (jn I m) pc t) : (∀ a b, ¬ (45 ≤ a ∧ a ≤ 51) → ¬ (a = 24 ∧ b = 26) → I2 a b = I a b) ∧ (∀ d, d < 7 * t + 7 → I2 46 d = WHm I m q pc many d) ∧ ∀ w, w ≤ t → I2 50 w = GRm I m q pc many w (7 * t + 7) := by
  have hsk : (fun d => SKm I1 m q pc d) = (fun d => SKm I m q pc d) := by
    funext d
    unfold SKm
    rw [kn_row hk (by decide) (by decide), kn_row hk (by decide) (by decide), kn_row hk (by decide) (by decide), kn_row hk (by decide) (by decide), kn_row hk (by decide) (by decide)]
  refine ⟨fun a b h1 h2 => ?_, fun d hd => ?_, fun w hw => ?_⟩
  · rw [hg.1 a b (by omega)]
    exact kn_eq hk (by omega) h2
  · rw [(hg.2.1 d hd).1, hsk]
    exact sWh_cong (fun k w h1 h2 => kn_V hk ht h1 h2) (fun w hw => kn_out hk ht hw) hd
  · rw [hg.2.2 w hw, hsk]
    exact sGr_cong (fun k w h1 h2 => kn_V hk ht h1 h2) (fun w hw => kn_out hk ht hw) (Nat.le_refl _)
end KN
