/-! week: what is worked, booked, ended -/
theorem bk_bo {M : Nat → Nat → Int} {b w m m' w' : Nat} {t d : Int} (hw : w < 301) (hw' : w' < 301) : bk (mBo M b t w m d) m' w' = if m' = m ∧ w' = w then bk M m w + d else bk M m' w' := by
  unfold bk mBo
  by_cases e : m' = m ∧ w' = w
  · rw [if_pos e]; obtain ⟨rfl, rfl⟩ := e; simp [zup]
  · rw [if_neg e]
    simp only [zup, show ¬ (True ∧ 301 * m' + w' = 301 * m + w) by omega, show ¬ (38 = 24 ∧ 301 * m' + w' = 4) by omega, show ¬ (38 = 42 ∧ 301 * m' + w' = b) by omega, show ¬ (38 = 41 ∧ 301 * m' + w' = b) by omega, show ¬ (38 = 40 ∧ 301 * m' + w' = b) by omega, show ¬ (38 = 39 ∧ 301 * m' + w' = b) by omega, if_false]
theorem bk_b1 {M : Nat → Nat → Int} {t : Int} {D : Nat → Nat → Int} {w w' m' : Nat} (hw : w < 301) (hw' : w' < 301) : ∀ m, bk (mB1 M t D w m) m' w' = if m' < m ∧ w' = w then bk M m' w' + D m' w' else bk M m' w'
  | 0 => by rw [if_neg (by omega)]; rfl
  | m + 1 => by
    have ih := bk_b1 (M := M) (t := t) (D := D) (m' := m') hw hw' m
    rw [mB1_succ]
    by_cases hd : D m w = 0
    · rw [if_pos hd, ih]
      by_cases e : m' = m ∧ w' = w
      · obtain ⟨rfl, rfl⟩ := e
        rw [if_neg (by omega), if_pos (by omega), hd]; omega
      · by_cases e2 : m' < m ∧ w' = w
        · rw [if_pos e2, if_pos (by omega)]
        · rw [if_neg e2, if_neg (by omega)]
    · rw [if_neg hd, bk_bo hw hw']
      by_cases e : m' = m ∧ w' = w
      · obtain ⟨rfl, rfl⟩ := e
        rw [if_pos ⟨rfl, rfl⟩, if_pos (by omega), ih, if_neg (by omega)]
      · rw [if_neg e, ih]
        by_cases e2 : m' < m ∧ w' = w
        · rw [if_pos e2, if_pos (by omega)]
        · rw [if_neg e2, if_neg (by omega)]
theorem bk_b2 {M : Nat → Nat → Int} {t : Int} {D : Nat → Nat → Int} {mc m' w' : Nat} (hw' : w' < 301) : ∀ W, W ≤ 301 → bk (mB2 M t D mc W) m' w' = if m' < mc ∧ w' < W then bk M m' w' + D m' w' else bk M m' w'
  | 0, _ => by rw [if_neg (by omega)]; rfl
  | W + 1, hW => by
    have ih := bk_b2 (M := M) (t := t) (D := D) (mc := mc) (m' := m') hw' W (by omega)
    show bk (mB1 (mB2 M t D mc W) t D W mc) m' w' = _
    rw [bk_b1 (by omega) hw', ih]
    by_cases e : m' < mc ∧ w' = W
    · rw [if_pos e, if_neg (by omega), if_pos (by omega)]
    · rw [if_neg e]
      by_cases e2 : m' < mc ∧ w' < W
      · rw [if_pos e2, if_pos (by omega)]
      · rw [if_neg e2, if_neg (by omega)]
theorem mB1_0 {M : Nat → Nat → Int} {t : Int} {D : Nat → Nat → Int} {w : Nat} : ∀ m, (∀ m', m' < m → D m' w = 0) → mB1 M t D w m = M
  | 0, _ => rfl
  | m + 1, h => by rw [mB1_succ, if_pos (h m (by omega))]; exact mB1_0 m (fun m' hm => h m' (by omega))
theorem mB2_0 {M : Nat → Nat → Int} {t : Int} {D : Nat → Nat → Int} {mc : Nat} : ∀ W, (∀ m w, m < mc → w < W → D m w = 0) → mB2 M t D mc W = M
  | 0, _ => rfl
  | W + 1, h => by
    show mB1 (mB2 M t D mc W) t D W mc = M
    rw [mB1_0 mc (fun m hm => h m W hm (by omega))]
    exact mB2_0 W (fun m w h1 h2 => h m w h1 (by omega))
theorem sm_pos {f : Nat → Int} : ∀ {n : Nat}, (∀ k, k < n → 0 ≤ f k) → sm f n = 0 → ∀ k, k < n → f k = 0
  | 0, _, _, k, hk => absurd hk (Nat.not_lt_zero k)
  | n + 1, h, hz, k, hk => by
    have h1 := sm_nn (f := f) (n := n) (fun k hk => h k (by omega))
    have h2 := h n (by omega)
    rw [sm] at hz
    by_cases e : k = n
    · subst e; omega
    · exact sm_pos (f := f) (n := n) (fun k hk => h k (by omega)) (by omega) k (by omega)
theorem dn2_0 {M : Nat → Nat → Int} {t rc pc mc : Nat} (h : dn2 M t rc pc mc = 0) : ∀ m w, m < mc → w < t + 1 → dfm M t rc pc m w = 0 := fun m w hm hw => by
  have h1 := sm_pos (f := fun m => dn1 M t rc pc m (t + 1)) (fun k _ => (sm_bI (p := fun w => ¬ dfm M t rc pc k w = 0) (dp := fun _ => inferInstance) (t + 1)).1) h m hm
  have h2 := sm_pos (f := fun w => bI (¬ dfm M t rc pc m w = 0)) (fun k _ => by have := bI_or (¬ dfm M t rc pc m k = 0); omega) h1 w hw
  exact Decidable.byContradiction (fun z => by rw [bI_t z] at h2; cases h2)
section WK
variable {n n' : Nat} {sh sh' : Nat → Nat × Nat} {I I' : Nat → Nat → Int} {P P' : Nat → Nat → Option Nat} {M M' : Nat → Nat → Int} {t mc rc pc bc c : Nat} {ma pa : Nat → Nat} {Ls : Nat → List Nat} {r rl : Nat}
/-- nothing is to be booked for a member that is not stale -/
theorem cln.df {m w : Nat} (h : cln M t rc pc m) (hO : mOk M t mc rc pc bc c) (hm : m < mc) (hw : w ≤ t) : dfm M t rc pc m w = 0 := by
  have hb := hO.2.1
  unfold dfm
  by_cases e : w = t
  · subst e
    have h1 : bk M m w = 0 := hO.2.2.2.2.2.2.1.2 m w (by omega) (by omega) (by omega)
    have h2 : GRm M m w pc rc w (7 * w + 7) = 0 := by
      unfold GRm sGr
      refine sm_0 (fun d hd => ?_)
      by_cases e : d / 7 = w
      · rw [if_pos e]
        refine sCo_0 (fun hz => ?_)
        unfold SKm at hz
        obtain ⟨i, g1, g2, g3, g4, g5⟩ := sSk_iff.mp hz
        have h3 := h.1 i g1 g2
        have h4 := hO.2.2.2.1 i g1
        omega
      · rw [if_neg e]
    rw [h1, h2]; rfl
  · rw [h.2 w (by omega)]; omega
/-- the course has worked the row of a member -/
theorem cpl.wk {m0 : Nat} {v : Option Nat} (hC : cpl n sh I P M t mc rc pc bc ma pa Ls r rl) (hO : mOk M t mc rc pc bc c) (hm0 : m0 < mc) (h1 : ∀ x b, x ≠ 17 → x ≠ ma m0 + 3 → I' x b = I x b) (h2 : cOk I') : cpl n sh I' (zpu P 17 2 v) M t mc rc pc bc ma pa Ls r rl := by
  have Q : ∀ x, x ≠ 17 → x ≠ ma m0 + 3 → I' x = I x := fun x a b => funext fun y => h1 x y a b
  have hpp := fun m hm => cpl.pp hO hC (m := m) hm
  have ht := hO.2.1
  have hsR := cpl.sep hC hm0
  obtain ⟨h0, g1, -, hm, hs, hmi, hp, hpi, hL, hE, hT⟩ := hC
  have hMb0 := (hm m0 hm0).2.1
  have h52 := hMb0.1
  refine ⟨by rw [Q 0 (by omega) (by omega)]; exact h0, g1.to (fun x a1 a2 => Q x (by omega) (by omega)) (fun _ _ _ _ _ => rfl), h2, fun m hmm => ?_, fun m hmm => ?_, hmi, fun p hpp => ?_, hpi, hL, hE.to (Nat.le_refl _) (fun _ _ => rfl) (by rw [Q 19 (by omega) (by omega)]) (by rw [zpu_ne (by omega)]) (Q r (by have := hE.2.1.1; omega) hsR.2.2.2) (fun _ _ _ => rfl), fun i hi => by rw [Q 22 (by omega) (by omega), Q 23 (by omega) (by omega)]; exact hT i hi⟩
  · have hMb := (hm m hmm).2.1
    have hb := hMb.1
    have hse := hMb.sep hMb0
    refine ⟨by rw [zpu_ne (by omega)]; exact (hm m hmm).1, (hm m hmm).2.to (by omega) (Nat.le_refl _) (fun _ _ => rfl) (fun b _ => by rw [Q (ma m) (by omega) (by omega)]) (by rw [Q (ma m) (by omega) (by omega)]; exact (hm m hmm).2.2.2.2.2.2.1) (Q _ (by omega) (by omega)) (Q _ (by omega) (by omega)) (fun x hx => ?_) (fun b => by rw [zpu_ne (by omega)]) (fun x hx => ?_) (fun _ _ _ => rfl) (fun _ _ => rfl) (fun _ _ => rfl)⟩
    · obtain ⟨p, q1, -, rfl⟩ := (hL m hmm x).mp hx
      have h9 := (hp p q1).2.1
      rw [Q (pa p) (by omega) (cPa.sep hMb0 (hp p q1).2).2.2.2]
    · have h9 := (hpp m hmm x hx).1
      rw [zpu_ne (by omega)]
  · have hMb := (hm m hmm).2.1
    have hb := hMb.1
    have hse := hMb.sep hMb0
    rw [Q (ma m) (by omega) (by omega)]
    exact hs m hmm
  · have h9 := (hp p hpp).2.1
    exact ⟨by rw [zpu_ne (by omega)]; exact (hp p hpp).1, (hp p hpp).2.to (Nat.le_refl _) (fun _ _ => rfl) (Q _ (by omega) (cPa.sep hMb0 (hp p hpp).2).2.2.2) (fun _ _ _ => rfl)⟩
theorem wkL_ok {rl b : Nat} (h1 : 64 ≤ rl) (h2 : rl ≤ 80000) (h3 : rl % 4 = 0) (hb : b ≤ 20000) : 64 ≤ wkL rl b ∧ wkL rl b ≤ 80000 ∧ wkL rl b % 4 = 0 ∧ 4 * b ≤ wkL rl b ∧ rl ≤ wkL rl b := by
  unfold wkL
  split
  · rcases Nat.le_total (4 * b) (min (2 * rl) 80000) with h | h
    · rw [Nat.max_eq_right h]
      rcases Nat.le_total (2 * rl) 80000 with g | g
      · rw [Nat.min_eq_left g] at h ⊢; omega
      · rw [Nat.min_eq_right g] at h ⊢; omega
    · rw [Nat.max_eq_left h]; omega
  · omega
/-- a greater row for the ledger -/
theorem cpl.room {d : Nat} (hC : cpl n sh I P M t mc rc pc bc ma pa Ls r rl) (hO : mOk M t mc rc pc bc c) (hB : yB n sh P) (hd : bc + d ≤ 20000) : cpl (n + 1) (zsh sh n (1, wkL rl (bc + d))) (cpI I n r rl) (zpu (zcp P n) 19 0 (some n)) M t mc rc pc bc ma pa Ls n (wkL rl (bc + d)) := by
  have hn := hB.1
  have Q : ∀ x, x < n → cpI I n r rl x = I x := fun x hx => by funext b; simp only [cpI, show ¬ x = n by omega, if_false]
  have S : ∀ x, x < n → zsh sh n (1, wkL rl (bc + d)) x = sh x := fun x hx => by simp only [zsh, show ¬ x = n by omega, if_false]
  have T : ∀ x b, x < n → x ≠ 19 → zpu (zcp P n) 19 0 (some n) x b = P x b := fun x b hx h19 => by rw [zpu_ne h19]; simp only [zcp, show ¬ x = n by omega, if_false]
  have hpp := fun m hm => cpl.pp hO hC (m := m) hm
  have ht := hO.2.1
  obtain ⟨h0, g1, g2, hm, hs, hmi, hp, hpi, hL, ⟨⟨e1, e2⟩, ⟨e3, e4, e5⟩, e6, e7⟩, hT⟩ := hC
  have hw := wkL_ok e6.1 e6.2.1 e6.2.2.1 hd
  refine ⟨by rw [Q 0 (by omega)]; exact h0, g1.to (fun x a1 a2 => Q x (by omega)) (fun _ _ _ _ _ => rfl), g2.to (Q 17 (by omega)), fun m hmm => ?_, fun m hmm => ?_, hmi, fun p hpp => ?_, hpi, hL, ⟨⟨by rw [Q 19 (by omega)]; exact e1, by simp [zpu]⟩, ⟨Or.inr hn, by omega, by simp [zsh]⟩, ⟨hw.1, hw.2.1, hw.2.2.1, by omega⟩, fun i hi => ?_⟩, fun i hi => by rw [Q 22 (by omega), Q 23 (by omega)]; exact hT i hi⟩
  · have hb := (hm m hmm).2.1.1
    exact ⟨by rw [T 1 m (by omega) (by omega)]; exact (hm m hmm).1, (hm m hmm).2.to (by omega) (by omega) S (fun b _ => by rw [Q (ma m) (by omega)]) (by rw [Q (ma m) (by omega)]; exact (hm m hmm).2.2.2.2.2.2.1) (Q _ (by omega)) (Q _ (by omega)) (fun x hx => by have := (hpp m hmm x hx).1; rw [Q x (by omega)]) (fun b => T _ b (by omega) (by omega)) (fun x hx => by have := (hpp m hmm x hx).1; rw [T x 5 (by omega) (by omega)]) (fun _ _ _ => rfl) (fun _ _ => rfl) (fun _ _ => rfl)⟩
  · have hb := (hm m hmm).2.1.1
    rw [Q (ma m) (by omega)]; exact hs m hmm
  · have h9 := (hp p hpp).2.1
    exact ⟨by rw [T 2 p (by omega) (by omega)]; exact (hp p hpp).1, (hp p hpp).2.to (by omega) S (Q _ (by omega)) (fun _ _ _ => rfl)⟩
  · have h9 : ∀ b, b < rl → cpI I n r rl n b = I r b := fun b hb => by simp [cpI, hb]
    rw [h9 _ (by omega), h9 _ (by omega), h9 _ (by omega), h9 _ (by omega)]
    exact e7 i hi
abbrev ldA (I : Nat → Nat → Int) (r bc : Nat) (t w m d : Int) : Nat → Nat → Int := zup (zup (zup (zup (zup I r (4 * bc) t) r (4 * bc + 1) w) r (4 * bc + 2) m) r (4 * bc + 3) d) 19 1 ((bc : Int) + 1)
abbrev bkA (I : Nat → Nat → Int) (a w : Nat) : Nat → Nat → Int := zup (zup I a 6 (I a 6 + bDf I a w)) (a + 2) w (I (a + 3) w)
theorem ldA_ne {t0 w m d : Int} {x : Nat} (h1 : x ≠ r) (h2 : x ≠ 19) : ldA I r bc t0 w m d x = I x := by unfold ldA; rw [zup_ne h2, zup_ne h1, zup_ne h1, zup_ne h1, zup_ne h1]
theorem bkA_ne {a w x : Nat} (h1 : x ≠ a) (h2 : x ≠ a + 2) : bkA I a w x = I x := by unfold bkA; rw [zup_ne h2, zup_ne h1]
theorem bkA_a {a w b : Nat} (hb : b ≠ 6) : bkA I a w a b = I a b := by unfold bkA; rw [zup_ne (by omega)]; simp [zup, hb]
theorem mBo_ne {b w m k : Nat} {t0 d : Int} (h : k < 24 ∨ 42 < k ∨ (24 < k ∧ k < 38)) : mBo M b t0 w m d k = M k := by unfold mBo; rw [zup_ne (by omega), zup_ne (by omega), zup_ne (by omega), zup_ne (by omega), zup_ne (by omega), zup_ne (by omega)]
/-- one booking -/
theorem cpl.book {m w : Nat} {d : Int} (hC : cpl n sh I P M t mc rc pc bc ma pa Ls r rl) (ht : t ≤ 300) (hm0 : m < mc) (hw : w ≤ t) (h7 : I (ma m) 7 = 1) (hrl : 4 * bc + 4 ≤ rl) (hd : I (ma m + 3) w = I (ma m + 2) w + d) :
    cpl n sh (bkA (ldA I r bc (t : Int) (w : Int) (m : Int) d) (ma m) w) P (mBo M bc (t : Int) w m d) t mc rc pc (bc + 1) ma pa Ls r rl := by
  have hsR := fun m hm => cpl.sep hC (m := m) hm
  obtain ⟨h0, g1, g2, hm, hs, hmi, hp, hpi, hL, ⟨⟨e1, e2⟩, ⟨e3, e4, e5⟩, e6, e7⟩, hT⟩ := hC
  have hr0 := hsR m hm0
  have hMb0 := (hm m hm0).2.1
  have h52 := hMb0.1
  have R : ∀ k, k < 24 ∨ 42 < k ∨ (24 < k ∧ k < 38) → mBo M bc (t : Int) w m d k = M k := fun k h => mBo_ne h
  have Q : ∀ x, x ≠ r → x ≠ 19 → x ≠ ma m → x ≠ ma m + 2 → bkA (ldA I r bc (t : Int) (w : Int) (m : Int) d) (ma m) w x = I x := fun x a1 a2 a3 a4 => by rw [bkA_ne a3 a4, ldA_ne a1 a2]
  have Qa : ∀ b, b ≠ 6 → bkA (ldA I r bc (t : Int) (w : Int) (m : Int) d) (ma m) w (ma m) b = I (ma m) b := fun b hb => by rw [bkA_a hb, ldA_ne (fun z => hr0.1 z.symm) (by omega)]
  have Qr : bkA (ldA I r bc (t : Int) (w : Int) (m : Int) d) (ma m) w r = ldA I r bc (t : Int) (w : Int) (m : Int) d r := bkA_ne hr0.1 hr0.2.2.1
  have hr9 : r ≠ 19 := by omega
  have Q6 : bkA (ldA I r bc (t : Int) (w : Int) (m : Int) d) (ma m) w (ma m) 6 = I (ma m) 6 + d := by
    unfold bkA
    rw [zup_ne (by omega), zup_eq]
    simp only [zu, if_true, bDf]
    rw [ldA_ne (fun z => hr0.1 z.symm) (by omega), ldA_ne (fun z => hr0.2.2.2 z.symm) (by omega), ldA_ne (fun z => hr0.2.2.1 z.symm) (by omega), hd]
    omega
  have Q2 : ∀ w', bkA (ldA I r bc (t : Int) (w : Int) (m : Int) d) (ma m) w (ma m + 2) w' = if w' = w then I (ma m + 2) w + d else I (ma m + 2) w' := fun w' => by
    unfold bkA
    rw [zup_eq]
    simp only [zu]
    rw [zup_ne (by omega), ldA_ne (fun z => hr0.2.2.1 z.symm) (by omega), ldA_ne (fun z => hr0.2.2.2 z.symm) (by omega), hd]
  refine ⟨by rw [Q 0 (by omega) (by omega) (by omega) (by omega)]; exact h0, g1.to (fun x a1 a2 => Q x (by omega) (by omega) (by omega) (by omega)) (fun i _ k a1 a2 => by rw [R k (by omega)]), g2.to (Q 17 (by omega) (by omega) (by omega) (by omega)), fun m' hmm => ⟨(hm m' hmm).1, ?_⟩, fun m' hmm h7' => ?_, hmi, fun p hpp => ⟨(hp p hpp).1, ?_⟩, hpi, by rw [R 33 (by omega)]; exact hL, ⟨⟨?_, e2⟩, ⟨e3, e4, e5⟩, ⟨e6.1, e6.2.1, e6.2.2.1, by omega⟩, fun i hi => ?_⟩, fun i hi => by rw [Q 22 (by omega) (by omega) (by omega) (by omega), Q 23 (by omega) (by omega) (by omega) (by omega), R 43 (by omega), R 44 (by omega)]; exact hT i hi⟩
  · have hMb := (hm m' hmm).2.1
    have hb := hMb.1
    have hr := hsR m' hmm
    have hse := hMb.sep hMb0
    have hse2 := hMb0.sep hMb
    have hLx : ∀ x, x ∈ Ls m' → bkA (ldA I r bc (t : Int) (w : Int) (m : Int) d) (ma m) w x = I x := fun x hx => by
      obtain ⟨p, q1, -, rfl⟩ := (hL m' hmm x).mp hx
      have h9 := (hp p q1).2
      have h10 := cPa.sep hMb0 h9
      have h11 := h9.1
      exact Q _ (fun z => by have e := h9.2.1; rw [z, e5] at e; cases e) (by omega) h10.1 h10.2.2.1
    by_cases e : m' = m
    · subst e
      obtain ⟨k1, k2, k3, k4, k5, k6, k7, k8, k9⟩ := (hm m' hmm).2
      refine ⟨k1, ?_, fun w' hw' => ?_, fun w' hw' => ?_, ?_, ?_, k7, srt_ext (fun x hx => by rw [hLx x hx]) k8, k9⟩
      · rw [Qa 0 (by omega), Qa 1 (by omega), Qa 2 (by omega), R 25 (by omega), R 26 (by omega), R 27 (by omega)]; exact k2
      · rw [Q (ma m' + 1) (fun z => hr.2.1 z.symm) (by omega) (by omega) (by omega), k3 w' hw']; unfold pd; rw [R 28 (by omega)]
      · rw [Q2 w', bk_bo (by omega) (by omega), k4 w (by omega), k4 w' hw']
        by_cases e : w' = w
        · rw [if_pos e, if_pos ⟨rfl, e⟩]
        · rw [if_neg e, if_neg (fun z => e z.2)]
      · rw [Q6, k5, sm_cong (f := bk (mBo M bc (t : Int) w m' d) m') (g := zu (bk M m') w (bk M m' w + d)) (fun k hk => ?_), sm_zu, if_pos (by omega)]
        · omega
        · rw [bk_bo (by omega) (by omega)]
          by_cases e : k = w
          · rw [if_pos ⟨rfl, e⟩]; simp [zu, e]
          · rw [if_neg (fun z => e z.2)]; simp [zu, e]
      · rw [Qa 7 (by omega)]; exact k6
    · have hne : ma m' ≠ ma m := fun z => e (hmi m' m hmm hm0 z)
      exact (hm m' hmm).2.to ht (Nat.le_refl _) (fun _ _ => rfl) (fun b _ => by rw [Q (ma m') (fun z => hr.1 z.symm) (by omega) hne (by omega)]) (by rw [Q (ma m') (fun z => hr.1 z.symm) (by omega) hne (by omega)]; exact (hm m' hmm).2.2.2.2.2.2.1) (Q _ (fun z => hr.2.1 z.symm) (by omega) (by omega) (by omega)) (Q _ (fun z => hr.2.2.1 z.symm) (by omega) (by omega) (by omega)) (fun x hx => by rw [hLx x hx]) (fun _ => rfl) (fun _ _ => rfl) (fun k a1 a2 => by rw [R k (by omega)]) (fun k hk => by unfold pd; rw [R 28 (by omega)]) (fun k hk => by rw [bk_bo (by omega) (by omega), if_neg (fun z => e z.1)])
  · have hMb := (hm m' hmm).2.1
    have hb := hMb.1
    have hr := hsR m' hmm
    have hse := hMb.sep hMb0
    by_cases e : m' = m
    · subst e; rw [Qa 7 (by omega), h7] at h7'; cases h7'
    · have hne : ma m' ≠ ma m := fun z => e (hmi m' m hmm hm0 z)
      rw [Q (ma m') (fun z => hr.1 z.symm) (by omega) hne (by omega)] at h7'
      refine (hs m' hmm h7').to (fun i _ k a1 a2 => by rw [R k (by omega)]) (fun d => SKm_to (fun i _ k a1 a2 => by rw [R k (by omega)])) (fun k hk => by unfold pd; rw [R 28 (by omega)]) (by unfold jn; rw [R 27 (by omega)]) (fun w' hw' => by rw [bk_bo (by omega) (by omega), if_neg (fun z => e z.1)]) ?_
      rw [R 33 (by omega), R 36 (by omega)]; exact (hs m' hmm h7').1
  · have h9 := (hp p hpp).2
    have h10 := cPa.sep hMb0 h9
    have h11 := h9.1
    exact h9.to (Nat.le_refl _) (fun _ _ => rfl) (Q _ (fun z => by have e := h9.2.1; rw [z, e5] at e; cases e) (by omega) h10.1 h10.2.2.1) (fun k a1 a2 => by rw [R k (by omega)])
  · rw [bkA_ne (by omega) (by omega)]; simp [ldA, zup]
  · rw [Qr]
    by_cases e : i = bc
    · subst e
      simp [ldA, mBo, zup, hr9]
    · have h9 := e7 i (by omega)
      have f : ∀ b, b < 4 * bc → ldA I r bc (t : Int) (w : Int) (m : Int) d r b = I r b := fun b hb => by
        unfold ldA
        rw [zup_ne hr9]
        simp only [zup, show ¬ (True ∧ b = 4 * bc) by omega, show ¬ (True ∧ b = 4 * bc + 1) by omega, show ¬ (True ∧ b = 4 * bc + 2) by omega, show ¬ (True ∧ b = 4 * bc + 3) by omega, if_false]
      have g : ∀ k, 39 ≤ k → k ≤ 42 → mBo M bc (t : Int) w m d k i = M k i := fun k a1 a2 => by
        unfold mBo
        rw [zup_ne (by omega), zup_ne (by omega)]
        simp [zup, e]
      rw [f _ (by omega), f _ (by omega), f _ (by omega), f _ (by omega), g 39 (by omega) (by omega), g 40 (by omega) (by omega), g 41 (by omega) (by omega), g 42 (by omega) (by omega)]
      exact h9
end WK
