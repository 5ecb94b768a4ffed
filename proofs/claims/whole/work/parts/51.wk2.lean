section WK2
variable {n n' : Nat} {sh sh' : Nat → Nat × Nat} {I I' : Nat → Nat → Int} {P P' : Nat → Nat → Option Nat} {M M' : Nat → Nat → Int} {t mc rc pc bc c : Nat} {ma pa : Nat → Nat} {Ls : Nat → List Nat} {r rl : Nat}
/-- the WEEK ends for the first members -/
def edI (I : Nat → Nat → Int) (ma : Nat → Nat) (t : Nat) : Nat → Nat → Nat → Int
  | 0 => I
  | i + 1 => zup (zup (edI I ma t i) (ma i) 7 0) (ma i + 1) (t + 1) (edI I ma t i (ma i + 1) t)
theorem edI_s (i : Nat) : edI I ma t (i + 1) = zup (zup (edI I ma t i) (ma i) 7 0) (ma i + 1) (t + 1) (edI I ma t i (ma i + 1) t) := rfl
theorem edI_ne {x b : Nat} : ∀ {i}, (∀ m, m < i → ¬ (x = ma m ∧ b = 7) ∧ ¬ (x = ma m + 1 ∧ b = t + 1)) → edI I ma t i x b = I x b
  | 0, _ => rfl
  | i + 1, h => by
    have h1 := h i (by omega)
    rw [edI_s]
    simp only [zup, h1.1, h1.2, if_false]
    exact edI_ne (fun m hm => h m (by omega))
theorem edI_row {x : Nat} {i : Nat} (h : ∀ m, m < i → x ≠ ma m ∧ x ≠ ma m + 1) : edI I ma t i x = I x := funext fun b => edI_ne (fun m hm => ⟨fun z => (h m hm).1 z.1, fun z => (h m hm).2 z.1⟩)
theorem edI_7 {m : Nat} : ∀ {i}, m < i → (∀ a b, a < i → b < i → ma a ≠ ma b + 1) → edI I ma t i (ma m) 7 = 0
  | 0, h, _ => absurd h (Nat.not_lt_zero m)
  | i + 1, h, hs => by
    rw [edI_s, zup_ne (hs m i h (by omega))]
    by_cases e : ma m = ma i
    · rw [e]; simp [zup]
    · rw [zup_ne e]
      have h2 : m ≠ i := fun z => e (by rw [z])
      exact edI_7 (m := m) (i := i) (by omega) (fun a b h1 h2 => hs a b (by omega) (by omega))
theorem edI_1 {m : Nat} : ∀ {i}, m < i → (∀ a b, a < i → b < i → ma a ≠ ma b + 1) → edI I ma t i (ma m + 1) (t + 1) = I (ma m + 1) t
  | 0, h, _ => absurd h (Nat.not_lt_zero m)
  | i + 1, h, hs => by
    rw [edI_s]
    by_cases e : ma m = ma i
    · rw [e, zup_eq]
      simp only [zu, if_true]
      exact edI_ne (fun m' hm' => ⟨fun z => hs m' i (by omega) (by omega) z.1.symm, fun z => by omega⟩)
    · rw [zup_ne (by omega), zup_ne (fun z => hs i m (by omega) h z.symm)]
      have h2 : m ≠ i := fun z => e (by rw [z])
      exact edI_1 (m := m) (i := i) (by omega) (fun a b h1 h2 => hs a b (by omega) (by omega))
/-- known in the next WEEK is what is known in this one, as long as nothing was told -/
theorem GRm_next {m w : Nat} (hO : mOk M t mc rc pc bc c) (hw : w ≤ t) : GRm M m t pc rc w (7 * t + 7) = GRm M m (t + 1) pc rc w (7 * (t + 1) + 7) := by
  refine GRm_w (fun d _ => ?_) (fun k j _ _ => ?_) (fun _ _ => rfl) rfl (by omega) (by omega) (by omega)
  · apply bool_iff
    unfold SKm
    rw [sSk_iff, sSk_iff]
    constructor
    · rintro ⟨i, g1, g2, g3, g4⟩
      have h := hO.2.2.2.1 i g1
      exact ⟨i, g1, g2, by omega, g4⟩
    · rintro ⟨i, g1, g2, g3, g4⟩
      have h := hO.2.2.2.1 i g1
      exact ⟨i, g1, g2, by omega, g4⟩
  · have key : ∀ s, s ≤ rc → sFI M 29 k (j : Int) (t : Int) s = sFI M 29 k (j : Int) ((t + 1 : Nat) : Int) s := by
      intro s
      induction s with
      | zero => intro _; rfl
      | succ s ih =>
        intro hs
        have h1 : M (29 + 3) s ≤ (t : Int) := hO.2.2.1.2 s (by omega)
        rw [sFI_succ, sFI_succ, ih (by omega)]
        exact iff_if (by omega)
    unfold vF
    rw [key rc (Nat.le_refl _)]
abbrev mNx (M : Nat → Nat → Int) (t : Nat) : Nat → Nat → Int := zup M 24 0 ((t : Int) + 1)
theorem mNx_ne {k : Nat} (h : k ≠ 24) : mNx M t k = M k := zup_ne h
/-- the WEEK has ended: all that was to be booked is booked -/
theorem cpl.endw {b2 : Nat} (hC : cpl n sh I P M' t mc rc pc b2 ma pa Ls r rl) (hO : mOk M t mc rc pc bc c) (ht3 : t < 300) (hRM : ∀ k, k ≠ 24 → k < 38 ∨ 42 < k → M' k = M k) (hbk : ∀ m w, m < mc → w ≤ t → bk M' m w = GRm M m t pc rc w (7 * t + 7)) :
    cpl n sh (zup (edI I ma t mc) 0 8 ((t : Int) + 1)) P (mNx M' t) (t + 1) mc rc pc b2 ma pa Ls r rl := by
  have R : ∀ k, k ≠ 24 → mNx M' t k = M' k := fun k h => mNx_ne h
  have hsR := fun m hm => cpl.sep hC (m := m) hm
  have hbb := hO.2.1
  obtain ⟨h0, g1, g2, hm, hs, hmi, hp, hpi, hL, hE, hT⟩ := hC
  have h52 : ∀ m, m < mc → 52 ≤ ma m := fun m hmm => (hm m hmm).2.1.1.1
  have hse : ∀ a b, a < mc → b < mc → ma a ≠ ma b + 1 := fun a b h1 h2 => ((hm a h1).2.1.sep (hm b h2).2.1).1
  have Q : ∀ x, x ≠ 0 → (∀ m, m < mc → x ≠ ma m ∧ x ≠ ma m + 1) → zup (edI I ma t mc) 0 8 ((t : Int) + 1) x = I x := fun x hx h => by rw [zup_ne hx, edI_row h]
  have Ql : ∀ x, x ≠ 0 → x < 52 → zup (edI I ma t mc) 0 8 ((t : Int) + 1) x = I x := fun x hx h => Q x hx (fun m hmm => by have := h52 m hmm; omega)
  have Qb : ∀ m, m < mc → ∀ b, b ≠ 7 → zup (edI I ma t mc) 0 8 ((t : Int) + 1) (ma m) b = I (ma m) b := fun m hmm b hb => by
    have := h52 m hmm
    rw [zup_ne (by omega)]
    exact edI_ne (fun m' hm' => ⟨fun z => hb z.2, fun z => hse m m' hmm hm' z.1⟩)
  have Q7 : ∀ m, m < mc → zup (edI I ma t mc) 0 8 ((t : Int) + 1) (ma m) 7 = 0 := fun m hmm => by
    have := h52 m hmm
    rw [zup_ne (by omega)]; exact edI_7 hmm hse
  have Qp : ∀ m, m < mc → ∀ b, b ≠ t + 1 → zup (edI I ma t mc) 0 8 ((t : Int) + 1) (ma m + 1) b = I (ma m + 1) b := fun m hmm b hb => by
    rw [zup_ne (by omega)]
    exact edI_ne (fun m' hm' => ⟨fun z => hse m' m hm' hmm z.1.symm, fun z => hb z.2⟩)
  have Q1 : ∀ m, m < mc → zup (edI I ma t mc) 0 8 ((t : Int) + 1) (ma m + 1) (t + 1) = I (ma m + 1) t := fun m hmm => by rw [zup_ne (by omega)]; exact edI_1 hmm hse
  have Q2 : ∀ m, m < mc → zup (edI I ma t mc) 0 8 ((t : Int) + 1) (ma m + 2) = I (ma m + 2) := fun m hmm => Q _ (by omega) (fun m' hm' => by have := (hm m' hm').2.1.sep (hm m hmm).2.1; omega)
  have Q0 : ∀ b, b ≠ 8 → zup (edI I ma t mc) 0 8 ((t : Int) + 1) 0 b = I 0 b := fun b hb => by
    rw [zup_eq]; simp only [zu, hb, if_false]
    rw [edI_row (fun m hmm => by have := h52 m hmm; omega)]
  have QL : ∀ p, p < pc → zup (edI I ma t mc) 0 8 ((t : Int) + 1) (pa p) = I (pa p) := fun p hpp => by
    have h9 := (hp p hpp).2
    have := h9.1
    exact Q _ (by omega) (fun m hmm => ⟨(cPa.sep (hm m hmm).2.1 h9).1, (cPa.sep (hm m hmm).2.1 h9).2.1⟩)
  refine ⟨⟨by rw [Q0 6 (by omega)]; exact h0.1, by rw [Q0 7 (by omega)]; exact h0.2.1, by simp [zup]⟩, g1.to (fun x a1 a2 => Ql x (by omega) (by omega)) (fun i _ k a1 a2 => by rw [R k (by omega)]), g2.to (Ql 17 (by omega) (by omega)), fun m hmm => ⟨(hm m hmm).1, ?_⟩, fun m hmm _ => ?_, hmi, fun p hpp => ⟨(hp p hpp).1, (hp p hpp).2.to (Nat.le_refl _) (fun _ _ => rfl) (QL p hpp) (fun k a1 a2 => by rw [R k (by omega)])⟩, hpi, by rw [R 33 (by omega)]; exact hL, hE.to (Nat.le_refl _) (fun _ _ => rfl) (by rw [Ql 19 (by omega) (by omega)]) rfl (Q r (by have := hE.2.1.1; omega) (fun m hmm => ⟨(hsR m hmm).1, (hsR m hmm).2.1⟩)) (fun k a1 a2 => R k (by omega)), fun i hi => by rw [Ql 22 (by omega) (by omega), Ql 23 (by omega) (by omega), R 43 (by omega), R 44 (by omega)]; exact hT i hi⟩
  · obtain ⟨k1, k2, k3, k4, k5, k6, k7, k8, k9⟩ := (hm m hmm).2
    refine ⟨k1, ?_, fun w hw => ?_, fun w hw => ?_, ?_, Or.inl (Q7 m hmm), k7, srt_ext (fun x hx => ?_) k8, k9⟩
    · rw [Qb m hmm 0 (by omega), Qb m hmm 1 (by omega), Qb m hmm 2 (by omega), R 25 (by omega), R 26 (by omega), R 27 (by omega)]; exact k2
    · have e : pd (mNx M' t) m = pd M' m := by unfold pd; rw [R 28 (by omega)]
      rw [e]
      by_cases ew : w = t + 1
      · subst ew
        rw [Q1 m hmm, k3 t (by omega), sm_succ (pd M' m) (t + 1), show pd M' m (t + 1) = 0 by unfold pd; rw [hRM 28 (by omega) (by omega)]; exact hO.2.2.2.2.2.1.2.2 m (t + 1) (by omega) (by omega) (by omega)]
        omega
      · rw [Qp m hmm w ew]; exact k3 w (by omega)
    · rw [Q2 m hmm, k4 w hw]; unfold bk; rw [R 38 (by omega)]
    · rw [Qb m hmm 6 (by omega), k5]; unfold bk; rw [R 38 (by omega)]
    · obtain ⟨p, q1, -, rfl⟩ := (hL m hmm x).mp hx
      rw [QL p q1]
  · refine ⟨fun p hp _ => ?_, fun w hw => ?_⟩
    · rw [R 36 (by omega), hRM 36 (by omega) (by omega)]
      have := hO.2.2.2.1 p hp
      omega
    · have e1 : bk (mNx M' t) m w = bk M' m w := by unfold bk; rw [R 38 (by omega)]
      rw [e1, hbk m w hmm (by omega), GRm_next hO (by omega)]
      have R2 : ∀ k, k ≠ 24 → k < 38 ∨ 42 < k → mNx M' t k = M k := fun k h1 h2 => by rw [R k h1, hRM k h1 h2]
      exact GRm_w (fun d _ => SKm_to (fun i _ k a1 a2 => by rw [R2 k (by omega) (by omega)])) (fun k j _ _ => vF_to (fun i _ => by rw [R2 29 (by omega) (by omega), R2 30 (by omega) (by omega), R2 31 (by omega) (by omega), R2 32 (by omega) (by omega)]; exact ⟨rfl, rfl, rfl, rfl⟩)) (fun k _ => by unfold pd; rw [R2 28 (by omega) (by omega)]) (by unfold jn; rw [R2 27 (by omega) (by omega)]) rfl (by omega) (by omega)
theorem mOk.next (hO : mOk M t mc rc pc bc c) (ht3 : t < 300) : mOk (mNx M t) (t + 1) mc rc pc bc c := by
  have R : ∀ k, k ≠ 24 → mNx M t k = M k := fun k h => mNx_ne h
  have N : ∀ b, b ≠ 0 → mNx M t 24 b = M 24 b := fun b hb => by simp [mNx, zup, hb]
  obtain ⟨⟨a0, a1, a2, a3, a4⟩, h1, h2, h3, h4, ⟨p1, p2, p3⟩, ⟨k1, k2⟩, h7⟩ := hO
  refine ⟨⟨by simp [mNx, zup], by rw [N 1 (by omega)]; exact a1, by rw [N 2 (by omega)]; exact a2, by rw [N 3 (by omega)]; exact a3, by rw [N 4 (by omega)]; exact a4⟩, by omega, ⟨fun i hi => ?_, fun i hi => ?_⟩, fun p hp => ?_, fun i hi => ?_, ?_, ?_, by rw [R 43 (by omega), R 44 (by omega)]; exact h7⟩
  · rw [R 29 (by omega), R (29 + 1) (by omega), R (29 + 2) (by omega), R (29 + 3) (by omega)]; exact h2.1 i hi
  · rw [R 32 (by omega)]; have := h2.2 i hi; omega
  · rw [R 33 (by omega), R 34 (by omega), R 35 (by omega), R 36 (by omega), R 37 (by omega)]; have := h3 p hp; omega
  · rw [R 25 (by omega), R 26 (by omega), R 27 (by omega)]; have := h4 i hi; omega
  · unfold pd; rw [R 28 (by omega)]
    exact ⟨p1, p2, fun m w g1 g2 g3 => p3 m w g1 g2 (by omega)⟩
  · unfold bk; rw [R 38 (by omega)]
    exact ⟨k1, fun m w g1 g2 g3 => k2 m w g1 g2 (by omega)⟩
/-- all bookings of a WEEK -/
theorem mOk.books (hO : mOk M t mc rc pc bc c) (ht3 : t < 300) {W : Nat} (hW : W ≤ t + 1) {b' : Nat} (hb : mB2 M (t : Int) (dfm M t rc pc) mc W 24 4 = (b' : Int)) (hb2 : b' ≤ 20000) : mOk (mNx (mB2 M (t : Int) (dfm M t rc pc) mc W) t) (t + 1) mc rc pc b' c := by
  have R : ∀ k, k ≠ 24 → k < 38 ∨ 42 < k → mNx (mB2 M (t : Int) (dfm M t rc pc) mc W) t k = M k := fun k h1 h2 => by rw [mNx_ne h1, mB2_row h1 h2]
  have N : ∀ b, b ≠ 0 → b ≠ 4 → mNx (mB2 M (t : Int) (dfm M t rc pc) mc W) t 24 b = M 24 b := fun b hb h4 => by rw [show mNx (mB2 M (t : Int) (dfm M t rc pc) mc W) t 24 b = mB2 M (t : Int) (dfm M t rc pc) mc W 24 b by simp [mNx, zup, hb]]; exact mB2_24 h4 W
  have hRl := hO.2.2.1.1
  obtain ⟨⟨a0, a1, a2, a3, a4⟩, h1, h2, h3, h4, ⟨p1, p2, p3⟩, ⟨k1, k2⟩, h7⟩ := hO
  have hbk : ∀ m w, w < 301 → bk (mNx (mB2 M (t : Int) (dfm M t rc pc) mc W) t) m w = if m < mc ∧ w < W then GRm M m t pc rc w (7 * t + 7) else bk M m w := fun m w hw => by
    have e : bk (mNx (mB2 M (t : Int) (dfm M t rc pc) mc W) t) m w = bk (mB2 M (t : Int) (dfm M t rc pc) mc W) m w := by unfold bk; rw [mNx_ne (by omega)]
    rw [e, bk_b2 hw W (by omega)]
    by_cases e : m < mc ∧ w < W
    · rw [if_pos e, if_pos e]; unfold dfm; omega
    · rw [if_neg e, if_neg e]
  refine ⟨⟨by simp [mNx, zup], by rw [N 1 (by omega) (by omega)]; exact a1, by rw [N 2 (by omega) (by omega)]; exact a2, by rw [N 3 (by omega) (by omega)]; exact a3, by rw [show mNx (mB2 M (t : Int) (dfm M t rc pc) mc W) t 24 4 = mB2 M (t : Int) (dfm M t rc pc) mc W 24 4 by simp [mNx, zup]]; exact hb⟩, by omega, ⟨fun i hi => ?_, fun i hi => ?_⟩, fun p hp => ?_, fun i hi => ?_, ?_, ⟨fun i => ?_, fun m w g1 g2 g3 => ?_⟩, by rw [R 43 (by omega) (by omega), R 44 (by omega) (by omega)]; exact h7⟩
  · rw [R 29 (by omega) (by omega), R (29 + 1) (by omega) (by omega), R (29 + 2) (by omega) (by omega), R (29 + 3) (by omega) (by omega)]; exact h2.1 i hi
  · rw [R 32 (by omega) (by omega)]; have := h2.2 i hi; omega
  · rw [R 33 (by omega) (by omega), R 34 (by omega) (by omega), R 35 (by omega) (by omega), R 36 (by omega) (by omega), R 37 (by omega) (by omega)]; have := h3 p hp; omega
  · rw [R 25 (by omega) (by omega), R 26 (by omega) (by omega), R 27 (by omega) (by omega)]; have := h4 i hi; omega
  · unfold pd; rw [R 28 (by omega) (by omega)]
    exact ⟨p1, p2, fun m w g1 g2 g3 => p3 m w g1 g2 (by omega)⟩
  · have h9 := hbk (i / 301) (i % 301) (Nat.mod_lt _ (by decide))
    unfold bk at h9
    rw [Nat.div_add_mod i 301] at h9
    rw [h9]
    split
    · have h10 := GRm_rng (I := M) (m := i / 301) (q := t) (pc := pc) (many := rc) (w := i % 301) (D := 7 * t + 7) hRl
      omega
    · exact k1 i
  · rw [hbk m w g2, if_neg (by omega)]
    exact k2 m w g1 g2 (by omega)
theorem cpl.bookF {m w m' : Nat} {d : Int} (hC : cpl n sh I P M t mc rc pc bc ma pa Ls r rl) (hm0 : m < mc) (hm' : m' < mc) : bkA (ldA I r bc (t : Int) (w : Int) (m : Int) d) (ma m) w (ma m') 7 = I (ma m') 7 ∧ bkA (ldA I r bc (t : Int) (w : Int) (m : Int) d) (ma m) w (ma m' + 3) = I (ma m' + 3) := by
  have hr := cpl.sep hC hm'
  have h1 := (hC.2.2.2.1 m hm0).2.1
  have h2 := (hC.2.2.2.1 m' hm').2.1
  have s1 := h1.sep h2
  have s2 := h2.sep h1
  have g2 := h2.1
  refine ⟨?_, ?_⟩
  · by_cases e : ma m' = ma m
    · rw [e, bkA_a (by omega), ldA_ne (fun z => hr.1 (by rw [e]; exact z.symm)) (by omega)]
    · rw [bkA_ne e (by omega), ldA_ne (fun z => hr.1 z.symm) (by omega)]
  · rw [bkA_ne (by omega) (by omega), ldA_ne (fun z => hr.2.2.2 z.symm) (by omega)]
end WK2
