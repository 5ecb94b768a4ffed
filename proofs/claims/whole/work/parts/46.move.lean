/-! the state moves on: each piece of the coupling by itself -/
theorem sm_zu (f : Nat → Int) (j : Nat) (x : Int) : ∀ n, sm (zu f j x) n = sm f n + (if j < n then x - f j else 0)
  | 0 => by simp [sm]
  | n + 1 => by
    rw [sm, sm, sm_zu f j x n]
    by_cases h1 : j < n
    · rw [if_pos h1, if_pos (by omega)]
      simp only [zu, show ¬ n = j by omega, if_false]
      omega
    · rw [if_neg h1]
      by_cases h2 : n = j
      · subst h2
        rw [if_pos (by omega)]
        simp only [zu, if_true]
        omega
      · rw [if_neg (by omega)]
        simp only [zu, h2, if_false]
        omega
theorem outB_w {V V' : Nat → Nat → Int} {pa pa' : Nat → Int} {j q q' w : Nat} (hV : ∀ k j, k < 7 → j ≤ w → V k j = V' k j) (hp : ∀ k, k ≤ w → pa k = pa' k) (hq : min w q = min w q') : outB V pa j q w = outB V' pa' j q' w := by
  have e : arr (V 0) pa j w q = arr (V' 0) pa' j w q' := by
    rw [arr_cong (t := w) (Nat.le_refl _) (fun k hk => hV 0 k (by omega) hk) hp]
    unfold arr
    rw [hq]
  unfold outB
  rw [e, hV 6 w (by omega) (by omega), hV 0 w (by omega) (by omega)]
theorem GRm_w {M M' : Nat → Nat → Int} {m q q' pc pc' rc rc' w D D' : Nat} (hs : ∀ d, d < 7 * w + 7 → SKm M m q pc d = SKm M' m q' pc' d) (hV : ∀ k j, k < 7 → j ≤ w → vF M q rc k j = vF M' q' rc' k j) (hp : ∀ k, k ≤ w → pd M m k = pd M' m k) (hj : jn M m = jn M' m) (hq : min w q = min w q') (hD : 7 * w + 7 ≤ D) (hD' : 7 * w + 7 ≤ D') : GRm M m q pc rc w D = GRm M' m q' pc' rc' w D' := by
  unfold GRm
  exact sGr_w hs hV (by show outB _ _ _ _ _ = outB _ _ _ _ _; rw [hj]; exact outB_w hV hp hq) hD hD'
section MOV
variable {n n' : Nat} {sh sh' : Nat → Nat × Nat} {I I' : Nat → Nat → Int} {P P' : Nat → Nat → Option Nat} {M M' : Nat → Nat → Int} {t mc rc pc bc c : Nat} {ma pa : Nat → Nat} {Ls : Nat → List Nat} {r rl : Nat}
theorem vF_to {q : Int} {many k w : Nat} (h : ∀ i, i < many → M' 29 i = M 29 i ∧ M' 30 i = M 30 i ∧ M' 31 i = M 31 i ∧ M' 32 i = M 32 i) : vF M' q many k w = vF M q many k w := by
  unfold vF
  rw [sFI_ext (I := M) (I' := M') (o := 29) (o' := 29) h]
theorem SKm_to {m q p d : Nat} (h : ∀ i, i < p → ∀ k, 33 ≤ k → k ≤ 37 → M' k i = M k i) : SKm M' m q p d = SKm M m q p d := by
  have e : SKm M' m q p d = true ↔ SKm M m q p d = true := by
    unfold SKm
    rw [sSk_iff, sSk_iff]
    constructor
    · rintro ⟨i, hi, g⟩
      rw [h i hi 33 (by omega) (by omega), h i hi 34 (by omega) (by omega), h i hi 35 (by omega) (by omega), h i hi 36 (by omega) (by omega), h i hi 37 (by omega) (by omega)] at g
      exact ⟨i, hi, g⟩
    · rintro ⟨i, hi, g⟩
      rw [← h i hi 33 (by omega) (by omega), ← h i hi 34 (by omega) (by omega), ← h i hi 35 (by omega) (by omega), ← h i hi 36 (by omega) (by omega), ← h i hi 37 (by omega) (by omega)] at g
      exact ⟨i, hi, g⟩
  cases h1 : SKm M m q p d with
  | true => exact e.mpr h1
  | false => cases h2 : SKm M' m q p d with
    | false => rfl
    | true => rw [e.mp h2] at h1; cases h1
theorem cRu.to (h : cRu I M rc) (hI : ∀ a, 3 ≤ a → a ≤ 16 → I' a = I a) (hM : ∀ i, i < rc → ∀ k, 29 ≤ k → k ≤ 32 → M' k i = M k i) : cRu I' M' rc := by
  obtain ⟨h1, h2, h3, h4, h5⟩ := h
  have hk : cok I' := by
    refine ⟨by rw [hI 16 (by omega) (by omega)]; exact h4.1, by rw [hI 3 (by omega) (by omega)]; exact h4.2.1, by rw [hI 3 (by omega) (by omega)]; exact h4.2.2.1, fun c T e1 e2 => ?_⟩
    rw [hI 3 (by omega) (by omega)] at e1 e2
    exact tbl_ext (h4.2.2.2 c T e1 e2) (fun i _ => by rw [hI 4 (by omega) (by omega), hI 5 (by omega) (by omega), hI 6 (by omega) (by omega)]; exact ⟨rfl, rfl, rfl⟩) (fun a a1 a2 => hI a (by omega) (by omega))
  refine ⟨by rw [hI 3 (by omega) (by omega)]; exact h1, fun i hi => ?_, ?_, hk, by rw [hI 3 (by omega) (by omega)]; exact h5⟩
  · rw [hI 4 (by omega) (by omega), hI 5 (by omega) (by omega), hI 6 (by omega) (by omega), hI 7 (by omega) (by omega), hM i hi 29 (by omega) (by omega), hM i hi 30 (by omega) (by omega), hM i hi 31 (by omega) (by omega), hM i hi 32 (by omega) (by omega)]
    exact h2 i hi
  · unfold yTo; rw [hI 7 (by omega) (by omega)]; exact h3
theorem cOk.to (h : cOk I) (hI : I' 17 = I 17) : cOk I' := by unfold cOk; rw [hI]; exact h
theorem yMb.to {a : Nat} (h : yMb n sh P a) (hn : n ≤ n') (hs : ∀ x, x < n → sh' x = sh x) (hP : ∀ b, 3 ≤ b → b ≤ 5 → P' a b = P a b) : yMb n' sh' P' a := by
  obtain ⟨h1, h2, h3, h4, h5, h6, h7, h8⟩ := h
  exact ⟨by omega, by rw [hs a (by omega)]; exact h2, by rw [hs (a + 1) (by omega)]; exact h3, by rw [hs (a + 2) (by omega)]; exact h4, by rw [hs (a + 3) (by omega)]; exact h5, by rw [hP 3 (by omega) (by omega)]; exact h6, by rw [hP 4 (by omega) (by omega)]; exact h7, by rw [hP 5 (by omega) (by omega)]; exact h8⟩
theorem cMe.to {m a : Nat} {L : List Nat} (h : cMe n sh I P M t m a L) (ht : t ≤ 300) (hn : n ≤ n') (hs : ∀ x, x < n → sh' x = sh x) (h0 : ∀ b, b ≠ 7 → I' a b = I a b) (h7 : I' a 7 = 0 ∨ I' a 7 = 1) (h1 : I' (a + 1) = I (a + 1)) (h2 : I' (a + 2) = I (a + 2)) (hL : ∀ x, x ∈ L → I' x 1 = I x 1) (hP : ∀ b, P' a b = P a b) (hPL : ∀ x, x ∈ L → P' x 5 = P x 5) (hM : ∀ k, 25 ≤ k → k ≤ 27 → M' k m = M k m) (hp : ∀ k, k < 301 → pd M' m k = pd M m k) (hb : ∀ k, k < 301 → bk M' m k = bk M m k) : cMe n' sh' I' P' M' t m a L := by
  obtain ⟨g1, g2, g3, g4, g5, g6, g7, g8, g9⟩ := h
  refine ⟨g1.to hn hs (fun b _ _ => hP b), ?_, fun w hw => ?_, fun w hw => ?_, ?_, h7, ?_, srt_ext hL g8, g9⟩
  · rw [h0 0 (by omega), h0 1 (by omega), h0 2 (by omega), hM 25 (by omega) (by omega), hM 26 (by omega) (by omega), hM 27 (by omega) (by omega)]; exact g2
  · rw [h1, g3 w hw]; exact sm_cong (fun k hk => (hp k (by omega)).symm)
  · rw [h2, g4 w hw]; exact (hb w (by omega)).symm
  · rw [h0 6 (by omega), g5]; exact sm_cong (fun k hk => (hb k hk).symm)
  · rw [hP 8]; exact chn_ext hPL g7
theorem cPa.to {p x : Nat} (h : cPa n sh I M p x) (hn : n ≤ n') (hs : ∀ x, x < n → sh' x = sh x) (hI : I' x = I x) (hM : ∀ k, 33 ≤ k → k ≤ 37 → M' k p = M k p) : cPa n' sh' I' M' p x := by
  obtain ⟨h1, h2, h3⟩ := h
  refine ⟨by omega, by rw [hs x h1.2]; exact h2, ?_⟩
  rw [hI, hM 33 (by omega) (by omega), hM 34 (by omega) (by omega), hM 35 (by omega) (by omega), hM 36 (by omega) (by omega), hM 37 (by omega) (by omega)]
  exact h3
theorem cLe.to (h : cLe n sh I P M bc r rl) (hn : n ≤ n') (hs : ∀ x, x < n → sh' x = sh x) (h19 : I' 19 1 = I 19 1) (hP : P' 19 0 = P 19 0) (hr : I' r = I r) (hM : ∀ k, 39 ≤ k → k ≤ 42 → M' k = M k) : cLe n' sh' I' P' M' bc r rl := by
  obtain ⟨⟨a1, a2⟩, ⟨b1, b2, b3⟩, h3, h4⟩ := h
  refine ⟨⟨by rw [h19]; exact a1, by rw [hP]; exact a2⟩, ⟨b1, by omega, by rw [hs r b2]; exact b3⟩, h3, fun i hi => ?_⟩
  rw [hr, hM 39 (by omega) (by omega), hM 40 (by omega) (by omega), hM 41 (by omega) (by omega), hM 42 (by omega) (by omega)]
  exact h4 i hi
theorem cln.to {m pc' : Nat} (h : cln M t rc pc m) (hV : ∀ i, i < rc → ∀ k, 29 ≤ k → k ≤ 32 → M' k i = M k i) (hS : ∀ d, SKm M' m t pc' d = SKm M m t pc d) (hp : ∀ k, k < t → pd M' m k = pd M m k) (hj : jn M' m = jn M m) (hb : ∀ w, w < t → bk M' m w = bk M m w) (hpp : ∀ p, p < pc' → M' 33 p = (m : Int) → M' 36 p < (t : Int)) : cln M' t rc pc' m := by
  refine ⟨hpp, fun w hw => ?_⟩
  rw [hb w hw, ← h.2 w hw]
  exact GRm_w (fun d _ => hS d) (fun k j _ _ => vF_to (fun i hi => ⟨hV i hi 29 (by omega) (by omega), hV i hi 30 (by omega) (by omega), hV i hi 31 (by omega) (by omega), hV i hi 32 (by omega) (by omega)⟩)) (fun k hk => hp k (by omega)) hj rfl (by omega) (by omega)
/-- what is apart -/
theorem cpl.sep (hC : cpl n sh I P M t mc rc pc bc ma pa Ls r rl) {m : Nat} (hm : m < mc) : r ≠ ma m ∧ r ≠ ma m + 1 ∧ r ≠ ma m + 2 ∧ r ≠ ma m + 3 := by
  have h1 := (hC.2.2.2.1 m hm).2.1
  obtain ⟨-, ⟨-, -, hs⟩, h4, -⟩ := hC.2.2.2.2.2.2.2.2.2.1
  refine ⟨fun e => ?_, fun e => ?_, fun e => ?_, fun e => ?_⟩
  · rw [e, h1.2.1] at hs; cases hs
  · rw [e, h1.2.2.1] at hs; have := congrArg Prod.snd hs; simp at this; omega
  · rw [e, h1.2.2.2.1] at hs; have := congrArg Prod.snd hs; simp at this; omega
  · rw [e, h1.2.2.2.2.1] at hs; have := congrArg Prod.snd hs; simp at this; omega
theorem yMb.sep {a b : Nat} (h1 : yMb n sh P a) (h2 : yMb n sh P b) : a ≠ b + 1 ∧ a ≠ b + 2 ∧ a ≠ b + 3 := by
  have e := h1.2.1
  refine ⟨fun z => ?_, fun z => ?_, fun z => ?_⟩
  · rw [z, h2.2.2.1] at e; cases e
  · rw [z, h2.2.2.2.1] at e; cases e
  · rw [z, h2.2.2.2.2.1] at e; cases e
theorem cPa.sep {a p x : Nat} (h1 : yMb n sh P a) (h2 : cPa n sh I M p x) : x ≠ a ∧ x ≠ a + 1 ∧ x ≠ a + 2 ∧ x ≠ a + 3 := by
  have e := h2.2.1
  refine ⟨fun z => ?_, fun z => ?_, fun z => ?_, fun z => ?_⟩
  · rw [z, h1.2.1] at e; cases e
  · rw [z, h1.2.2.1] at e; cases e
  · rw [z, h1.2.2.2.1] at e; cases e
  · rw [z, h1.2.2.2.2.1] at e; cases e
theorem cPa.sepR {p x : Nat} (h1 : cLe n sh I P M bc r rl) (h2 : cPa n sh I M p x) : x ≠ r := fun z => by
  have e := h2.2.1
  rw [z, h1.2.1.2.2] at e; cases e
theorem mOk.up (h : mOk M t mc rc pc bc c) (hc : c + 1 ≤ 512) : mOk M t mc rc pc bc (c + 1) := by
  obtain ⟨h0, h1, h2, h3, h4, ⟨h5, h6, h7⟩, h8⟩ := h
  refine ⟨h0, by omega, h2, h3, h4, ⟨h5, fun m hm => ?_, h7⟩, h8⟩
  have := h6 m hm
  omega
/-! table -/
theorem mOk.table {y : Nat} {a s : Int} (h : mOk M t mc rc pc bc c) (ha : 0 ≤ a ∧ a ≤ 1000) (hs : 0 ≤ s ∧ s ≤ 365) : mOk (zup (zup M 43 y a) 44 y s) t mc rc pc bc c := by
  have R : ∀ k, k ≠ 43 → k ≠ 44 → zup (zup M 43 y a) 44 y s k = M k := fun k h1 h2 => by rw [zup_ne h2, zup_ne h1]
  obtain ⟨h0, h1, h2, h3, h4, h5, h6, h7⟩ := h
  refine ⟨?_, h1, ?_, ?_, ?_, ?_, ?_, fun i hi => ?_⟩
  · rw [R 24 (by omega) (by omega)]; exact h0
  · refine ⟨fun i hi => ?_, fun i hi => ?_⟩
    · rw [R 29 (by omega) (by omega), R (29 + 1) (by omega) (by omega), R (29 + 2) (by omega) (by omega), R (29 + 3) (by omega) (by omega)]; exact h2.1 i hi
    · rw [R 32 (by omega) (by omega)]; exact h2.2 i hi
  · rw [R 33 (by omega) (by omega), R 34 (by omega) (by omega), R 35 (by omega) (by omega), R 36 (by omega) (by omega), R 37 (by omega) (by omega)]; exact h3
  · rw [R 25 (by omega) (by omega), R 26 (by omega) (by omega), R 27 (by omega) (by omega)]; exact h4
  · unfold pd; rw [R 28 (by omega) (by omega)]; exact h5
  · unfold bk; rw [R 38 (by omega) (by omega)]; exact h6
  · have h8 := h7 i hi
    by_cases e : i = y
    · subst e; simp [zup]; omega
    · simp [zup, e]; omega
theorem cpl.table {y : Nat} {a s : Int} (hC : cpl n sh I P M t mc rc pc bc ma pa Ls r rl) (hO : mOk M t mc rc pc bc c) : cpl n sh (zup (zup I 22 y a) 23 y s) P (zup (zup M 43 y a) 44 y s) t mc rc pc bc ma pa Ls r rl := by
  have R : ∀ k, k ≠ 43 → k ≠ 44 → zup (zup M 43 y a) 44 y s k = M k := fun k h1 h2 => by rw [zup_ne h2, zup_ne h1]
  have Q : ∀ k, k ≠ 22 → k ≠ 23 → zup (zup I 22 y a) 23 y s k = I k := fun k h1 h2 => by rw [zup_ne h2, zup_ne h1]
  have hpp := fun m hm => cpl.pp hO hC (m := m) hm
  have ht := hO.2.1
  obtain ⟨h0, h1, h2, hm, hs, hmi, hp, hpi, hL, hE, hT⟩ := hC
  refine ⟨by rw [Q 0 (by omega) (by omega)]; exact h0, h1.to (fun x a1 a2 => Q x (by omega) (by omega)) (fun i _ k a1 a2 => by rw [R k (by omega) (by omega)]), h2.to (Q 17 (by omega) (by omega)), fun m hmm => ⟨(hm m hmm).1, (hm m hmm).2.to (by omega) (Nat.le_refl _) (fun _ _ => rfl) ?_ ?_ ?_ ?_ ?_ (fun _ => rfl) (fun _ _ => rfl) ?_ ?_ ?_⟩, fun m hmm h7 => ?_, hmi, fun p hpp => ⟨(hp p hpp).1, (hp p hpp).2.to (Nat.le_refl _) (fun _ _ => rfl) ?_ ?_⟩, hpi, ?_, hE.to (Nat.le_refl _) (fun _ _ => rfl) (by rw [Q 19 (by omega) (by omega)]) rfl ?_ (fun k a1 a2 => R k (by omega) (by omega)), fun i hi => ?_⟩
  · have := (hm m hmm).2.1.1; rw [Q (ma m) (by omega) (by omega)]; exact fun _ _ => rfl
  · have := (hm m hmm).2.1.1; rw [Q (ma m) (by omega) (by omega)]; exact (hm m hmm).2.2.2.2.2.2.1
  · have := (hm m hmm).2.1.1; rw [Q (ma m + 1) (by omega) (by omega)]
  · have := (hm m hmm).2.1.1; rw [Q (ma m + 2) (by omega) (by omega)]
  · intro x hx; have := (hpp m hmm x hx).1; rw [Q x (by omega) (by omega)]
  · intro k a1 a2; rw [R k (by omega) (by omega)]
  · intro k hk; unfold pd; rw [R 28 (by omega) (by omega)]
  · intro k hk; unfold bk; rw [R 38 (by omega) (by omega)]
  · have := (hm m hmm).2.1.1
    rw [Q (ma m) (by omega) (by omega)] at h7
    refine (hs m hmm h7).to (fun i _ k a1 a2 => by rw [R k (by omega) (by omega)]) (fun d => SKm_to (fun i _ k a1 a2 => by rw [R k (by omega) (by omega)])) ?_ ?_ ?_ ?_
    · intro k hk; unfold pd; rw [R 28 (by omega) (by omega)]
    · unfold jn; rw [R 27 (by omega) (by omega)]
    · intro k hk; unfold bk; rw [R 38 (by omega) (by omega)]
    · rw [R 33 (by omega) (by omega), R 36 (by omega) (by omega)]; exact (hs m hmm h7).1
  · have := (hp p hpp).2.1; rw [Q (pa p) (by omega) (by omega)]
  · intro k a1 a2; rw [R k (by omega) (by omega)]
  · rw [R 33 (by omega) (by omega)]; exact hL
  · have := hE.2.1.1; rw [Q r (by omega) (by omega)]
  · have h8 := hT i hi
    by_cases e : i = y
    · subst e; simp [zup]
    · simp [zup, e]; exact h8
end MOV
