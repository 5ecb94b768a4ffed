theorem bool_iff {a b : Bool} (h : a = true ↔ b = true) : a = b := by
  cases a with
  | true => exact (h.mp rfl).symm
  | false => cases b with
    | false => rfl
    | true => exact absurd (h.mpr rfl) (by decide)
section MOV2
variable {n n' : Nat} {sh sh' : Nat → Nat × Nat} {I I' : Nat → Nat → Int} {P P' : Nat → Nat → Option Nat} {M M' : Nat → Nat → Int} {t mc rc pc bc c : Nat} {ma pa : Nat → Nat} {Ls : Nat → List Nat} {r rl : Nat}
/-! pay -/
theorem mPy_ne {m : Nat} {s : Int} {k : Nat} (h : k ≠ 28) : mPy M m t s k = M k := by unfold mPy; rw [zup_ne h]
theorem mPy_pd {m m' k : Nat} {s : Int} (ht : t ≤ 300) (hk : k < 301) : pd (mPy M m t s) m' k = if m' = m ∧ k = t then pd M m t + s else pd M m' k := by
  unfold pd mPy
  by_cases e : m' = m ∧ k = t
  · rw [if_pos e]; obtain ⟨rfl, rfl⟩ := e; simp [zup]
  · rw [if_neg e]; simp only [zup, show ¬ (True ∧ 301 * m' + k = 301 * m + t) by omega, if_false]
theorem mPy_sm {m : Nat} {s : Int} (ht : t ≤ 300) {w : Nat} (hw : w ≤ 301) : sm (pd (mPy M m t s) m) w = sm (pd M m) w + (if t < w then s else 0) := by
  rw [sm_cong (g := zu (pd M m) t (pd M m t + s)) (fun k hk => ?_), sm_zu]
  · by_cases e : t < w
    · rw [if_pos e, if_pos e]; omega
    · rw [if_neg e, if_neg e]
  · rw [mPy_pd ht (by omega)]
    by_cases e : k = t
    · subst e; simp [zu]
    · simp [zu, e]
theorem mOk.pay {m : Nat} {s : Int} (h : mOk M t mc rc pc bc c) (hm : m < mc) (hs : 1 ≤ s ∧ s ≤ 1000) (hc : c + 1 ≤ 512) : mOk (mPy M m t s) t mc rc pc bc (c + 1) := by
  have R : ∀ k, k ≠ 28 → mPy M m t s k = M k := fun k h1 => mPy_ne h1
  obtain ⟨h0, h1, h2, h3, h4, ⟨p1, p2, p3⟩, h6, h7⟩ := h
  refine ⟨?_, by omega, ?_, ?_, ?_, ⟨fun i => ?_, fun m' hm' => ?_, fun m' w hm' hw hz => ?_⟩, ?_, fun i hi => ?_⟩
  · rw [R 24 (by omega)]; exact h0
  · refine ⟨fun i hi => ?_, fun i hi => ?_⟩
    · rw [R 29 (by omega), R (29 + 1) (by omega), R (29 + 2) (by omega), R (29 + 3) (by omega)]; exact h2.1 i hi
    · rw [R 32 (by omega)]; exact h2.2 i hi
  · rw [R 33 (by omega), R 34 (by omega), R 35 (by omega), R 36 (by omega), R 37 (by omega)]; exact h3
  · rw [R 25 (by omega), R 26 (by omega), R 27 (by omega)]; exact h4
  · have h8 := p1 i
    have h9 := p1 (301 * m + t)
    unfold mPy zup
    split <;> omega
  · by_cases e : m' = m
    · subst e
      rw [mPy_sm (by omega) (by omega), if_pos (by omega)]
      have := p2 m' hm'
      omega
    · rw [sm_cong (g := pd M m') (fun k hk => by rw [mPy_pd (by omega) hk, if_neg (fun z => e z.1)])]
      have := p2 m' hm'
      omega
  · rw [mPy_pd (by omega) hw, if_neg (by omega)]; exact p3 m' w hm' hw hz
  · unfold bk; rw [R 38 (by omega)]; exact h6
  · rw [R 43 (by omega), R 44 (by omega)]; exact h7 i hi
theorem cpl.pay {m : Nat} {s : Int} (hC : cpl n sh I P M t mc rc pc bc ma pa Ls r rl) (hO : mOk M t mc rc pc bc c) (hm0 : m < mc) : cpl n sh (zup I (ma m + 1) t (I (ma m + 1) t + s)) P (mPy M m t s) t mc rc pc bc ma pa Ls r rl := by
  have R : ∀ k, k ≠ 28 → mPy M m t s k = M k := fun k h1 => mPy_ne h1
  have Q : ∀ k, k ≠ ma m + 1 → zup I (ma m + 1) t (I (ma m + 1) t + s) k = I k := fun k h1 => zup_ne h1
  have hpp := fun m hm => cpl.pp hO hC (m := m) hm
  have ht := hO.2.1
  have hsR := cpl.sep hC hm0
  obtain ⟨h0, h1, h2, hm, hs, hmi, hp, hpi, hL, hE, hT⟩ := hC
  have hMb := (hm m hm0).2.1
  have h52 := hMb.1
  have hpm : ∀ p, p < pc → pa p ≠ ma m + 1 := fun p hp1 => (cPa.sep hMb (hp p hp1).2).2.1
  have hLm : ∀ m', m' < mc → ∀ x, x ∈ Ls m' → x ≠ ma m + 1 := fun m' h x hx => by
    obtain ⟨p, hp1, -, rfl⟩ := (hL m' h x).mp hx
    exact hpm p hp1
  have hcl : ∀ m', m' < mc → ∀ k, k < 301 → k ≠ t → pd (mPy M m t s) m' k = pd M m' k := fun m' _ k hk e => by rw [mPy_pd (by omega) hk, if_neg (fun z => e z.2)]
  refine ⟨by rw [Q 0 (by omega)]; exact h0, h1.to (fun x a1 a2 => Q x (by omega)) (fun i _ k a1 a2 => by rw [R k (by omega)]), h2.to (Q 17 (by omega)), fun m' hmm => ⟨(hm m' hmm).1, ?_⟩, fun m' hmm h7 => ?_, hmi, fun p hpp => ⟨(hp p hpp).1, (hp p hpp).2.to (Nat.le_refl _) (fun _ _ => rfl) (Q _ (hpm p hpp)) (fun k a1 a2 => by rw [R k (by omega)])⟩, hpi, by rw [R 33 (by omega)]; exact hL, hE.to (Nat.le_refl _) (fun _ _ => rfl) (by rw [Q 19 (by omega)]) rfl (Q _ hsR.2.1) (fun k a1 a2 => R k (by omega)), fun i hi => by rw [Q 22 (by omega), Q 23 (by omega), R 43 (by omega), R 44 (by omega)]; exact hT i hi⟩
  · have hMb' := (hm m' hmm).2.1
    have hse := hMb'.sep hMb
    have hse2 := hMb.sep hMb'
    by_cases e : m' = m
    · subst e
      obtain ⟨g1, g2, g3, g4, g5, g6, g7, g8, g9⟩ := (hm m' hmm).2
      refine ⟨g1, ?_, fun w hw => ?_, fun w hw => ?_, ?_, ?_, g7, srt_ext (fun x hx => by rw [Q x (hLm m' hmm x hx)]) g8, g9⟩
      · rw [Q (ma m') (by omega), R 25 (by omega), R 26 (by omega), R 27 (by omega)]; exact g2
      · rw [mPy_sm (by omega) (by omega), ← g3 w hw, zup_eq]
        by_cases e : w = t
        · subst e; rw [if_pos (by omega)]; simp [zu]
        · rw [if_neg (by omega)]; simp [zu, e]
      · rw [Q (ma m' + 2) (by omega), g4 w hw]; unfold bk; rw [R 38 (by omega)]
      · rw [Q (ma m') (by omega), g5]; unfold bk; rw [R 38 (by omega)]
      · rw [Q (ma m') (by omega)]; exact g6
    · have hne : ma m' ≠ ma m := fun z => e (hmi m' m hmm hm0 z)
      refine (hm m' hmm).2.to (by omega) (Nat.le_refl _) (fun _ _ => rfl) (fun b _ => by rw [Q (ma m') (by omega)]) (by rw [Q (ma m') (by omega)]; exact (hm m' hmm).2.2.2.2.2.2.1) (Q _ (by omega)) (Q _ (by omega)) (fun x hx => by rw [Q x (hLm m' hmm x hx)]) (fun _ => rfl) (fun _ _ => rfl) (fun k a1 a2 => by rw [R k (by omega)]) (fun k hk => ?_) (fun k hk => by unfold bk; rw [R 38 (by omega)])
      rw [mPy_pd (by omega) hk, if_neg (fun z => e z.1)]
  · have hMb' := (hm m' hmm).2.1
    have hse := hMb'.sep hMb
    rw [Q (ma m') (by omega)] at h7
    refine (hs m' hmm h7).to (fun i _ k a1 a2 => by rw [R k (by omega)]) (fun d => SKm_to (fun i _ k a1 a2 => by rw [R k (by omega)])) (fun k hk => hcl m' hmm k (by omega) (by omega)) (by unfold jn; rw [R 27 (by omega)]) (fun w hw => by unfold bk; rw [R 38 (by omega)]) ?_
    rw [R 33 (by omega), R 36 (by omega)]; exact (hs m' hmm h7).1
/-! rule -/
/-- all members are stale -/
def stI (I : Nat → Nat → Int) (ma : Nat → Nat) : Nat → Nat → Nat → Int
  | 0 => I
  | i + 1 => zup (stI I ma i) (ma i) 7 1
theorem stI_7 {a b : Nat} (h : b ≠ 7) : ∀ i, stI I ma i a b = I a b
  | 0 => rfl
  | i + 1 => by
    show zup (stI I ma i) (ma i) 7 1 a b = _
    simp only [zup, show ¬ (a = ma i ∧ b = 7) by omega, if_false]
    exact stI_7 h i
theorem stI_ne {a : Nat} : ∀ {i}, (∀ m, m < i → a ≠ ma m) → stI I ma i a = I a
  | 0, _ => rfl
  | i + 1, h => by
    show zup (stI I ma i) (ma i) 7 1 a = _
    rw [zup_ne (h i (by omega))]
    exact stI_ne (fun m hm => h m (by omega))
theorem stI_at {m : Nat} : ∀ {i}, m < i → stI I ma i (ma m) 7 = 1
  | 0, h => absurd h (Nat.not_lt_zero m)
  | i + 1, h => by
    show zup (stI I ma i) (ma i) 7 1 (ma m) 7 = 1
    by_cases e : ma m = ma i
    · simp [zup, e]
    · rw [zup_ne e]
      have h2 : m ≠ i := fun z => e (by rw [z])
      exact stI_at (m := m) (i := i) (by omega)
abbrev mRu (M : Nat → Nat → Int) (rc : Nat) (k f v t : Int) : Nat → Nat → Int := zup (mWr M rc k f v t) 24 2 ((rc : Int) + 1)
theorem mRu_ne {k f v tt : Int} {a : Nat} (h : a ≠ 24) (h2 : a < 29 ∨ 32 < a) : mRu M rc k f v tt a = M a := by unfold mRu; rw [zup_ne h, mWr_ne h2]
theorem mRu_at {k f v tt : Int} {a b : Nat} (h : a ≠ 24) (h2 : b ≠ rc) : mRu M rc k f v tt a b = M a b := by unfold mRu; rw [zup_ne h]; simp [mWr, zup, h2]
theorem mOk.rule {k f v : Int} (h : mOk M t mc rc pc bc c) (hru : sRule k f v) (hrc : rc < 200) : mOk (mRu M rc k f v (t : Int)) t mc (rc + 1) pc bc c := by
  have R : ∀ a, a ≠ 24 → (a < 29 ∨ 32 < a) → mRu M rc k f v (t : Int) a = M a := fun a h1 h2 => mRu_ne h1 h2
  have N : ∀ b, b ≠ 2 → mRu M rc k f v (t : Int) 24 b = M 24 b := fun b hb => by simp [mRu, mWr, zup, hb]
  obtain ⟨⟨a0, a1, a2, a3, a4⟩, h1, h2, h3, h4, h5, h6, h7⟩ := h
  refine ⟨⟨by rw [N 0 (by omega)]; exact a0, by rw [N 1 (by omega)]; exact a1, by simp [mRu, zup], by rw [N 3 (by omega)]; exact a3, by rw [N 4 (by omega)]; exact a4⟩, by omega, ⟨fun i hi => ?_, fun i hi => ?_⟩, ?_, ?_, ?_, ?_, fun i hi => ?_⟩
  · have h8 := mWr_rl h2.1 hru (t := (t : Int)) (by omega) i hi
    unfold mRu
    rw [zup_ne (by omega), zup_ne (by omega), zup_ne (by omega), zup_ne (by omega)]
    exact h8
  · by_cases e : i = rc
    · subst e; simp [mRu, mWr, zup]
    · rw [mRu_at (by omega) e]; exact h2.2 i (by omega)
  · rw [R 33 (by omega) (by omega), R 34 (by omega) (by omega), R 35 (by omega) (by omega), R 36 (by omega) (by omega), R 37 (by omega) (by omega)]; exact h3
  · rw [R 25 (by omega) (by omega), R 26 (by omega) (by omega), R 27 (by omega) (by omega)]; exact h4
  · unfold pd; rw [R 28 (by omega) (by omega)]; exact h5
  · unfold bk; rw [R 38 (by omega) (by omega)]; exact h6
  · rw [R 43 (by omega) (by omega), R 44 (by omega) (by omega)]; exact h7 i hi
theorem cpl.rule {k f v : Int} (hC : cpl n sh I P M t mc rc pc bc ma pa Ls r rl) (hO : mOk M t mc rc pc bc c) (hru : sRule k f v) (hrc : rc < 200) : cpl n sh (stI (zup (bWr I rc k f v (t : Int)) 3 4 ((rc : Int) + 1)) ma mc) P (mRu M rc k f v (t : Int)) t mc (rc + 1) pc bc ma pa Ls r rl := by
  have R : ∀ a, a ≠ 24 → (a < 29 ∨ 32 < a) → mRu M rc k f v (t : Int) a = M a := fun a h1 h2 => mRu_ne h1 h2
  have hpp := fun m hm => cpl.pp hO hC (m := m) hm
  have ht := hO.2.1
  have hsR := fun m hm => cpl.sep hC (m := m) hm
  obtain ⟨h0, ⟨b1, b2, b3, b4, b5⟩, h2, hm, hs, hmi, hp, hpi, hL, hE, hT⟩ := hC
  have h52 : ∀ m, m < mc → 52 ≤ ma m := fun m hmm => (hm m hmm).2.1.1.1
  have Q0 : ∀ a, a < 3 ∨ 7 < a → zup (bWr I rc k f v (t : Int)) 3 4 ((rc : Int) + 1) a = I a := fun a ha => by rw [zup_ne (by omega), bWr_ne (by omega)]
  have S0 : ∀ a, a < 52 → stI (zup (bWr I rc k f v (t : Int)) 3 4 ((rc : Int) + 1)) ma mc a = zup (bWr I rc k f v (t : Int)) 3 4 ((rc : Int) + 1) a := fun a ha => stI_ne (fun m hmm => by have := h52 m hmm; omega)
  have Q : ∀ a, (a < 3 ∨ 7 < a) → (∀ m, m < mc → a ≠ ma m) → stI (zup (bWr I rc k f v (t : Int)) 3 4 ((rc : Int) + 1)) ma mc a = I a := fun a ha hne => by rw [stI_ne hne, Q0 a ha]
  have Q7 : ∀ a b, (a < 3 ∨ 7 < a) → b ≠ 7 → stI (zup (bWr I rc k f v (t : Int)) 3 4 ((rc : Int) + 1)) ma mc a b = I a b := fun a b ha hb => by rw [stI_7 hb, Q0 a ha]
  generalize hJ : stI (zup (bWr I rc k f v (t : Int)) 3 4 ((rc : Int) + 1)) ma mc = J at *
  have J3 : J 3 = zup I 3 4 ((rc : Int) + 1) 3 := by rw [S0 3 (by omega), zup_eq, zup_eq, bWr_ne (by omega)]
  have J37 : ∀ b, b ≠ 4 → J 3 b = I 3 b := fun b hb => by rw [J3]; simp [zup, hb]
  have Jr : ∀ a, 4 ≤ a → a ≤ 7 → J a = bWr I rc k f v (t : Int) a := fun a h1 h2 => by rw [S0 a (by omega), zup_ne (by omega)]
  refine ⟨by rw [Q 0 (by omega) (fun m hmm => by have := h52 m hmm; omega)]; exact h0, ⟨by rw [J3]; simp [zup], fun i hi => ?_, fun i hi => ?_, ?_, ?_⟩, h2.to (Q 17 (by omega) (fun m hmm => by have := h52 m hmm; omega)), fun m hmm => ⟨(hm m hmm).1, ?_⟩, fun m hmm h7 => ?_, hmi, fun p hpp => ⟨(hp p hpp).1, (hp p hpp).2.to (Nat.le_refl _) (fun _ _ => rfl) (Q _ (by have := (hp p hpp).2.1; omega) (fun m hmm => (cPa.sep (hm m hmm).2.1 (hp p hpp).2).1)) (fun k a1 a2 => by rw [R k (by omega) (by omega)])⟩, hpi, by rw [R 33 (by omega) (by omega)]; exact hL, hE.to (Nat.le_refl _) (fun _ _ => rfl) (by rw [Q 19 (by omega) (fun m hmm => by have := h52 m hmm; omega)]) rfl (Q _ (by have := hE.2.1.1; omega) (fun m hmm => (hsR m hmm).1)) (fun k a1 a2 => R k (by omega) (by omega)), fun i hi => by rw [Q 22 (by omega) (fun m hmm => by have := h52 m hmm; omega), Q 23 (by omega) (fun m hmm => by have := h52 m hmm; omega), R 43 (by omega) (by omega), R 44 (by omega) (by omega)]; exact hT i hi⟩
  · rw [Jr 4 (by omega) (by omega), Jr 5 (by omega) (by omega), Jr 6 (by omega) (by omega), Jr 7 (by omega) (by omega)]
    by_cases e : i = rc
    · subst e; simp [bWr, mRu, mWr, zup]
    · rw [bWr_at e, bWr_at e, bWr_at e, bWr_at e, mRu_at (by omega) e, mRu_at (by omega) e, mRu_at (by omega) e, mRu_at (by omega) e]; exact b2 i (by omega)
  · rw [Jr 7 (by omega) (by omega), bWr_at (by omega : i ≠ rc)]
    by_cases e : i + 1 = rc
    · rw [(b2 i (by omega)).2.2.2, show bWr I rc k f v (t : Int) 7 (i + 1) = (t : Int) by rw [e]; simp [bWr, zup]]
      exact hO.2.2.1.2 i (by omega)
    · rw [bWr_at e]; exact b3 i (by omega)
  · refine cok_ext (s := rc) b4 b5 (J37 7 (by omega)) (J37 8 (by omega)) (fun i hi => ?_) (fun a a1 a2 => Q a (by omega) (fun m hmm => by have := h52 m hmm; omega))
    rw [Jr 4 (by omega) (by omega), Jr 5 (by omega) (by omega), Jr 6 (by omega) (by omega), bWr_at (by omega : i ≠ rc), bWr_at (by omega : i ≠ rc), bWr_at (by omega : i ≠ rc)]
    exact ⟨rfl, rfl, rfl⟩
  · rw [J37 7 (by omega)]; omega
  · have hMb := (hm m hmm).2.1
    have h1 := hMb.1
    refine (hm m hmm).2.to (by omega) (Nat.le_refl _) (fun _ _ => rfl) (fun b hb => Q7 (ma m) b (by omega) hb) (Or.inr ?_) (Q _ (by omega) (fun m' hm' => (((hm m' hm').2.1.sep hMb).1).symm)) (Q _ (by omega) (fun m' hm' => (((hm m' hm').2.1.sep hMb).2.1).symm)) (fun x hx => Q7 x 1 (by have := (hpp m hmm x hx).1; omega) (by omega)) (fun _ => rfl) (fun _ _ => rfl) (fun k a1 a2 => by rw [R k (by omega) (by omega)]) (fun k hk => by unfold pd; rw [R 28 (by omega) (by omega)]) (fun k hk => by unfold bk; rw [R 38 (by omega) (by omega)])
    rw [← hJ]; exact stI_at hmm
  · rw [show J (ma m) 7 = 1 by rw [← hJ]; exact stI_at hmm] at h7
    cases h7
/-! back -/
theorem mOk.back {p : Nat} (h : mOk M t mc rc pc bc c) : mOk (zup M 37 p (t : Int)) t mc rc pc bc c := by
  have R : ∀ a, a ≠ 37 → zup M 37 p (t : Int) a = M a := fun a h1 => zup_ne h1
  obtain ⟨h0, h1, h2, h3, h4, h5, h6, h7⟩ := h
  refine ⟨by rw [R 24 (by omega)]; exact h0, h1, ⟨fun i hi => ?_, by rw [R 32 (by omega)]; exact h2.2⟩, fun i hi => ?_, by rw [R 25 (by omega), R 26 (by omega), R 27 (by omega)]; exact h4, by unfold pd; rw [R 28 (by omega)]; exact h5, by unfold bk; rw [R 38 (by omega)]; exact h6, by rw [R 43 (by omega), R 44 (by omega)]; exact h7⟩
  · rw [R 29 (by omega), R (29 + 1) (by omega), R (29 + 2) (by omega), R (29 + 3) (by omega)]; exact h2.1 i hi
  · have h8 := h3 i hi
    rw [R 33 (by omega), R 34 (by omega), R 35 (by omega), R 36 (by omega)]
    refine ⟨h8.1, h8.2.1, h8.2.2.1, ?_⟩
    by_cases e : i = p
    · subst e; simp only [zup, and_self, if_true]; omega
    · simp [zup, e]; omega
theorem cpl.back {p m : Nat} (hC : cpl n sh I P M t mc rc pc bc ma pa Ls r rl) (hO : mOk M t mc rc pc bc c) (hp0 : p < pc) (hm0 : m < mc) (hpm : M 33 p = (m : Int)) : cpl n sh (zup (zup I (pa p) 4 (t : Int)) (ma m) 7 1) P (zup M 37 p (t : Int)) t mc rc pc bc ma pa Ls r rl := by
  have R : ∀ a, a ≠ 37 → zup M 37 p (t : Int) a = M a := fun a h1 => zup_ne h1
  have Q : ∀ a, a ≠ pa p → a ≠ ma m → zup (zup I (pa p) 4 (t : Int)) (ma m) 7 1 a = I a := fun a h1 h2 => by rw [zup_ne h2, zup_ne h1]
  have hpp := fun m hm => cpl.pp hO hC (m := m) hm
  have ht := hO.2.1
  have hsR := fun m hm => cpl.sep hC (m := m) hm
  obtain ⟨h0, h1, h2, hm, hs, hmi, hp, hpi, hL, hE, hT⟩ := hC
  have hPa := (hp p hp0).2
  have hq := hPa.1
  have hMb0 := (hm m hm0).2.1
  have hqm := hMb0.1
  have hx : ∀ m', m' < mc → pa p ≠ ma m' ∧ pa p ≠ ma m' + 1 ∧ pa p ≠ ma m' + 2 ∧ pa p ≠ ma m' + 3 := fun m' h => cPa.sep (hm m' h).2.1 hPa
  have Qm : ∀ m', m' < mc → ∀ b, b ≠ 7 → zup (zup I (pa p) 4 (t : Int)) (ma m) 7 1 (ma m') b = I (ma m') b := fun m' h b hb => by
    have := hx m' h
    simp only [zup, show ¬ (ma m' = ma m ∧ b = 7) by omega, show ¬ (ma m' = pa p ∧ b = 4) by omega, if_false]
  refine ⟨by rw [Q 0 (by omega) (by omega)]; exact h0, h1.to (fun x a1 a2 => Q x (by omega) (by omega)) (fun i _ k a1 a2 => by rw [R k (by omega)]), h2.to (Q 17 (by omega) (by omega)), fun m' hmm => ⟨(hm m' hmm).1, ?_⟩, fun m' hmm h7 => ?_, hmi, fun p' hpp => ⟨(hp p' hpp).1, ?_⟩, hpi, by rw [R 33 (by omega)]; exact hL, hE.to (Nat.le_refl _) (fun _ _ => rfl) (by rw [Q 19 (by omega) (by omega)]) rfl (Q _ (fun z => cPa.sepR hE hPa z.symm) (hsR m hm0).1) (fun k a1 a2 => R k (by omega)), fun i hi => by rw [Q 22 (by omega) (by omega), Q 23 (by omega) (by omega), R 43 (by omega), R 44 (by omega)]; exact hT i hi⟩
  · have hMb := (hm m' hmm).2.1
    have h8 := hx m' hmm
    have hse := hMb0.sep hMb
    refine (hm m' hmm).2.to (by omega) (Nat.le_refl _) (fun _ _ => rfl) (Qm m' hmm) ?_ (Q _ (fun z => h8.2.1 z.symm) (fun z => hse.1 z.symm)) (Q _ (fun z => h8.2.2.1 z.symm) (fun z => hse.2.1 z.symm)) (fun x hx => ?_) (fun _ => rfl) (fun _ _ => rfl) (fun k a1 a2 => by rw [R k (by omega)]) (fun k hk => by unfold pd; rw [R 28 (by omega)]) (fun k hk => by unfold bk; rw [R 38 (by omega)])
    · by_cases e : ma m' = ma m
      · rw [e]; simp [zup]
      · rw [Q (ma m') (fun z => h8.1 z.symm) e]; exact (hm m' hmm).2.2.2.2.2.2.1
    · have h9 := (hpp m' hmm x hx)
      obtain ⟨p', hp1, -, rfl⟩ := (hL m' hmm x).mp hx
      have h10 := cPa.sep hMb0 (hp p' hp1).2
      simp only [zup, show ¬ (pa p' = ma m ∧ 1 = 7) by omega, show ¬ (pa p' = pa p ∧ 1 = 4) by omega, if_false]
  · by_cases e : m' = m
    · subst e
      rw [show zup (zup I (pa p) 4 (t : Int)) (ma m') 7 1 (ma m') 7 = 1 by simp [zup]] at h7
      cases h7
    · have hne : ma m' ≠ ma m := fun z => e (hmi m' m hmm hm0 z)
      rw [Q (ma m') (fun z => (hx m' hmm).1 z.symm) hne] at h7
      refine (hs m' hmm h7).to (fun i _ k a1 a2 => by rw [R k (by omega)]) (fun d => ?_) (fun k hk => by unfold pd; rw [R 28 (by omega)]) (by unfold jn; rw [R 27 (by omega)]) (fun w hw => by unfold bk; rw [R 38 (by omega)]) (by rw [R 33 (by omega), R 36 (by omega)]; exact (hs m' hmm h7).1)
      apply bool_iff
      unfold SKm
      rw [sSk_iff, sSk_iff, R 33 (by omega), R 34 (by omega), R 35 (by omega), R 36 (by omega)]
      have hz : ∀ i, M 33 i = (m' : Int) → zup M 37 p (t : Int) 37 i = M 37 i := fun i hi => by
        have : i ≠ p := fun z => by subst z; omega
        simp [zup, this]
      constructor
      · rintro ⟨i, g1, g2, g3⟩; rw [hz i g2] at g3; exact ⟨i, g1, g2, g3⟩
      · rintro ⟨i, g1, g2, g3⟩; rw [← hz i g2] at g3; exact ⟨i, g1, g2, g3⟩
  · by_cases e : p' = p
    · subst e
      obtain ⟨g1, g2, g3, g4, g5, g6, g7⟩ := (hp p' hpp).2
      have h8 := (hx m hm0).1
      have hz : ∀ b, b ≠ 4 → zup (zup I (pa p') 4 (t : Int)) (ma m) 7 1 (pa p') b = I (pa p') b := fun b hb => by
        simp [zup, h8, hb]
      refine ⟨g1, g2, by rw [hz 0 (by omega), R 33 (by omega)]; exact g3, by rw [hz 1 (by omega), R 34 (by omega)]; exact g4, by rw [hz 2 (by omega), R 35 (by omega)]; exact g5, by rw [hz 3 (by omega), R 36 (by omega)]; exact g6, ?_⟩
      rw [zup_ne h8]; simp [zup]
    · refine (hp p' hpp).2.to (Nat.le_refl _) (fun _ _ => rfl) (Q _ (fun z => e (hpi p' p hpp hp0 z)) (cPa.sep hMb0 (hp p' hpp).2).1) (fun k a1 a2 => ?_)
      simp [zup, e]
end MOV2
