section MOV3
variable {n n' : Nat} {sh sh' : Nat → Nat × Nat} {I I' : Nat → Nat → Int} {P P' : Nat → Nat → Option Nat} {M M' : Nat → Nat → Int} {t mc rc pc bc c : Nat} {ma pa : Nat → Nat} {Ls : Nat → List Nat} {r rl : Nat}
/-! join -/
theorem mJoin_ne {y d tt : Int} {a : Nat} (h : a < 24 ∨ 27 < a) : mJoin M mc y d tt a = M a := by unfold mJoin; rw [zup_ne (by omega), zup_ne (by omega), zup_ne (by omega), zup_ne (by omega)]
theorem mJoin_at {y d tt : Int} {a b : Nat} (h : a ≠ 24) (hb : b ≠ mc) : mJoin M mc y d tt a b = M a b := by simp [mJoin, zup, h, hb]
theorem mOk.join {y d : Int} (h : mOk M t mc rc pc bc c) (hmc : mc < 40) (hy : 16 ≤ y ∧ y ≤ 60) (hd : 0 ≤ d ∧ d ≤ 3) : mOk (mJoin M mc y d (t : Int)) t (mc + 1) rc pc bc c := by
  have R : ∀ a, a < 24 ∨ 27 < a → mJoin M mc y d (t : Int) a = M a := fun a h1 => mJoin_ne h1
  have N : ∀ b, b ≠ 1 → mJoin M mc y d (t : Int) 24 b = M 24 b := fun b hb => by simp [mJoin, zup, hb]
  obtain ⟨⟨a0, a1, a2, a3, a4⟩, h1, h2, h3, h4, ⟨p1, p2, p3⟩, ⟨k1, k2⟩, h7⟩ := h
  refine ⟨⟨by rw [N 0 (by omega)]; exact a0, by simp [mJoin, zup], by rw [N 2 (by omega)]; exact a2, by rw [N 3 (by omega)]; exact a3, by rw [N 4 (by omega)]; exact a4⟩, by omega, ⟨fun i hi => ?_, by rw [R 32 (by omega)]; exact h2.2⟩, fun p hp => ?_, fun i hi => ?_, ?_, ?_, by rw [R 43 (by omega), R 44 (by omega)]; exact h7⟩
  · rw [R 29 (by omega), R (29 + 1) (by omega), R (29 + 2) (by omega), R (29 + 3) (by omega)]; exact h2.1 i hi
  · rw [R 33 (by omega), R 34 (by omega), R 35 (by omega), R 36 (by omega), R 37 (by omega)]
    have := h3 p hp
    omega
  · by_cases e : i = mc
    · subst e
      have e1 : mJoin M i y d (t : Int) 25 i = y := by simp [mJoin, zup]
      have e2 : mJoin M i y d (t : Int) 26 i = d := by simp [mJoin, zup]
      have e3 : mJoin M i y d (t : Int) 27 i = (t : Int) := by simp [mJoin, zup]
      rw [e1, e2, e3]
      omega
    · rw [mJoin_at (by omega) e, mJoin_at (by omega) e, mJoin_at (by omega) e]; exact h4 i (by omega)
  · unfold pd; rw [R 28 (by omega)]
    exact ⟨p1, p2, fun m w g1 g2 g3 => p3 m w g1 g2 (by omega)⟩
  · unfold bk; rw [R 38 (by omega)]
    exact ⟨k1, fun m w g1 g2 g3 => k2 m w g1 g2 (by omega)⟩
def upN (f : Nat → Nat) (k x : Nat) : Nat → Nat := fun i => if i = k then x else f i
theorem upN_ne {f : Nat → Nat} {k x i : Nat} (h : i ≠ k) : upN f k x i = f i := if_neg h
theorem upN_eq {f : Nat → Nat} {k x : Nat} : upN f k x k = x := if_pos rfl
def upL (f : Nat → List Nat) (k : Nat) (x : List Nat) : Nat → List Nat := fun i => if i = k then x else f i
theorem upL_ne {f : Nat → List Nat} {k : Nat} {x : List Nat} {i : Nat} (h : i ≠ k) : upL f k x i = f i := if_neg h
theorem upL_eq {f : Nat → List Nat} {k : Nat} {x : List Nat} : upL f k x k = x := if_pos rfl
theorem cpl.join {y d : Int} (hC : cpl n sh I P M t mc rc pc bc ma pa Ls r rl) (hO : mOk M t mc rc pc bc c) (hB : yB n sh P) (hmc : mc < 40)
    (hs1 : ∀ x, x < n → sh' x = sh x) (hs2 : sh' n = (0, 2) ∧ sh' (n + 1) = (1, 301) ∧ sh' (n + 2) = (1, 301) ∧ sh' (n + 3) = (1, 301))
    (hI1 : ∀ x, x < n → x ≠ 0 → I' x = I x) (hI0 : ∀ b, b ≠ 6 → I' 0 b = I 0 b) (hI06 : I' 0 6 = (mc : Int) + 1) (hIn : I' n 0 = y ∧ I' n 1 = d ∧ I' n 2 = (t : Int) ∧ I' n 6 = 0 ∧ I' n 7 = 0) (hIz : ∀ b, I' (n + 1) b = 0 ∧ I' (n + 2) b = 0)
    (hP1 : ∀ x b, x < n → ¬ (x = 1 ∧ b = mc) → P' x b = P x b) (hP11 : P' 1 mc = some n) (hPn : P' n 3 = some (n + 1) ∧ P' n 4 = some (n + 2) ∧ P' n 5 = some (n + 3) ∧ P' n 8 = none) :
    cpl (n + 4) sh' I' P' (mJoin M mc y d (t : Int)) t (mc + 1) rc pc bc (upN ma mc n) pa (upL Ls mc []) r rl := by
  have R : ∀ a, a < 24 ∨ 27 < a → mJoin M mc y d (t : Int) a = M a := fun a h1 => mJoin_ne h1
  have hpp := fun m hm => cpl.pp hO hC (m := m) hm
  have ht := hO.2.1
  have hn := hB.1
  obtain ⟨h0, h1, h2, hm, hs, hmi, hp, hpi, hL, hE, hT⟩ := hC
  have hlt : ∀ m, m < mc → 52 ≤ ma m ∧ ma m + 3 < n := fun m h => (hm m h).2.1.1
  refine ⟨⟨by rw [hI06]; omega, by rw [hI0 7 (by omega)]; exact h0.2.1, by rw [hI0 8 (by omega)]; exact h0.2.2⟩, h1.to (fun x a1 a2 => hI1 x (by omega) (by omega)) (fun i _ k a1 a2 => by rw [R k (by omega)]), h2.to (hI1 17 (by omega) (by omega)), fun m hmm => ?_, fun m hmm => ?_, fun m m' g1 g2 => ?_, fun p hpp => ⟨?_, ?_⟩, hpi, fun m hmm x => ?_, hE.to (by omega) hs1 (by rw [hI1 19 (by omega) (by omega)]) (hP1 19 0 (by omega) (by omega)) (hI1 r hE.2.1.2.1 (by have := hE.2.1.1; omega)) (fun k a1 a2 => R k (by omega)), fun i hi => by rw [hI1 22 (by omega) (by omega), hI1 23 (by omega) (by omega), R 43 (by omega), R 44 (by omega)]; exact hT i hi⟩
  · by_cases e : m = mc
    · subst e
      rw [upN_eq, upL_eq]
      refine ⟨hP11, ⟨⟨by omega, by omega⟩, hs2.1, hs2.2.1, hs2.2.2.1, hs2.2.2.2, hPn.1, hPn.2.1, hPn.2.2.1⟩, ?_, fun w hw => ?_, fun w hw => ?_, ?_, Or.inl hIn.2.2.2.2, hPn.2.2.2, trivial, List.nodup_nil⟩
      · rw [hIn.1, hIn.2.1, hIn.2.2.1]
        simp [mJoin, zup]
      · rw [(hIz w).1]; unfold pd; rw [R 28 (by omega)]
        exact (sm_0 (fun k hk => hO.2.2.2.2.2.1.2.2 m k (by omega) (by omega) (by omega))).symm
      · rw [(hIz w).2]; unfold bk; rw [R 38 (by omega)]
        exact (hO.2.2.2.2.2.2.1.2 m w (by omega) (by omega) (by omega)).symm
      · rw [hIn.2.2.2.1]; unfold bk; rw [R 38 (by omega)]
        exact (sm_0 (fun k hk => hO.2.2.2.2.2.2.1.2 m k (by omega) (by omega) (by omega))).symm
    · have hm1 : m < mc := by omega
      have h8 := hlt m hm1
      rw [upN_ne e, upL_ne e]
      refine ⟨by rw [hP1 1 m (by omega) (by omega)]; exact (hm m hm1).1, (hm m hm1).2.to (by omega) (by omega) hs1 (fun b _ => by rw [hI1 (ma m) (by omega) (by omega)]) (by rw [hI1 (ma m) (by omega) (by omega)]; exact (hm m hm1).2.2.2.2.2.2.1) (hI1 _ (by omega) (by omega)) (hI1 _ (by omega) (by omega)) (fun x hx => by have := (hpp m hm1 x hx).1; rw [hI1 x (by omega) (by omega)]) (fun b => hP1 (ma m) b (by omega) (by omega)) (fun x hx => by have := (hpp m hm1 x hx).1; rw [hP1 x 5 (by omega) (by omega)]) (fun k a1 a2 => mJoin_at (by omega) e) (fun k hk => by unfold pd; rw [R 28 (by omega)]) (fun k hk => by unfold bk; rw [R 38 (by omega)])⟩
  · by_cases e : m = mc
    · subst e
      intro _
      have hno : ∀ p, p < pc → M 33 p ≠ (m : Int) := fun p hp z => by have := (hO.2.2.2.1 p hp).1; omega
      refine ⟨fun p hp hz => ?_, fun w hw => ?_⟩
      · rw [R 33 (by omega)] at hz; exact absurd hz (hno p hp)
      · have e1 : bk (mJoin M m y d (t : Int)) m w = 0 := by unfold bk; rw [R 38 (by omega)]; exact hO.2.2.2.2.2.2.1.2 m w (by omega) (by omega) (by omega)
        rw [e1]
        unfold GRm
        refine sGr_0 (fun dd hz => ?_)
        unfold SKm at hz
        obtain ⟨i, g1, g2, -⟩ := sSk_iff.mp hz
        rw [R 33 (by omega)] at g2
        exact hno i g1 g2
    · have hm1 : m < mc := by omega
      have h8 := hlt m hm1
      rw [upN_ne e, hI1 (ma m) (by omega) (by omega)]
      intro h7
      refine (hs m hm1 h7).to (fun i _ k a1 a2 => by rw [R k (by omega)]) (fun d => SKm_to (fun i _ k a1 a2 => by rw [R k (by omega)])) (fun k hk => by unfold pd; rw [R 28 (by omega)]) (by unfold jn; rw [mJoin_at (by omega) e]) (fun w hw => by unfold bk; rw [R 38 (by omega)]) ?_
      rw [R 33 (by omega), R 36 (by omega)]; exact (hs m hm1 h7).1
  · by_cases e1 : m = mc
    · by_cases e2 : m' = mc
      · omega
      · rw [e1, upN_eq, upN_ne e2]; have := hlt m' (by omega); omega
    · by_cases e2 : m' = mc
      · rw [e2, upN_eq, upN_ne e1]; have := hlt m (by omega); omega
      · rw [upN_ne e1, upN_ne e2]; exact hmi m m' (by omega) (by omega)
  · rw [hP1 2 p (by omega) (by omega)]; exact (hp p hpp).1
  · have h8 := (hp p hpp).2.1
    exact (hp p hpp).2.to (by omega) hs1 (hI1 _ (by omega) (by omega)) (fun k a1 a2 => by rw [R k (by omega)])
  · by_cases e : m = mc
    · subst e
      rw [upL_eq, R 33 (by omega)]
      constructor
      · intro hx; cases hx
      · rintro ⟨p, g1, g2, -⟩; have := (hO.2.2.2.1 p g1).1; omega
    · rw [upL_ne e, R 33 (by omega)]; exact hL m (by omega) x
/-! paper -/
theorem mPa_ne {m f a tt : Int} {k : Nat} (h : k < 24 ∨ 37 < k ∨ (24 < k ∧ k < 33)) : mPa M pc m f a tt k = M k := by unfold mPa; rw [zup_ne (by omega), zup_ne (by omega), zup_ne (by omega), zup_ne (by omega), zup_ne (by omega), zup_ne (by omega)]
theorem mPa_at {m f a tt : Int} {k b : Nat} (h : k ≠ 24) (hb : b ≠ pc) : mPa M pc m f a tt k b = M k b := by simp [mPa, zup, h, hb]
theorem mOk.paper {m : Nat} {f a : Int} (h : mOk M t mc rc pc bc c) (hm : m < mc) (hpc : pc < 200) (hf : 0 ≤ f ∧ f ≤ a ∧ a ≤ 7 * (t : Int) + 6) : mOk (mPa M pc (m : Int) f a (t : Int)) t mc rc (pc + 1) bc c := by
  have R : ∀ k, k < 24 ∨ 37 < k ∨ (24 < k ∧ k < 33) → mPa M pc (m : Int) f a (t : Int) k = M k := fun k h1 => mPa_ne h1
  have N : ∀ b, b ≠ 3 → mPa M pc (m : Int) f a (t : Int) 24 b = M 24 b := fun b hb => by simp [mPa, zup, hb]
  obtain ⟨⟨a0, a1, a2, a3, a4⟩, h1, h2, h3, h4, h5, h6, h7⟩ := h
  refine ⟨⟨by rw [N 0 (by omega)]; exact a0, by rw [N 1 (by omega)]; exact a1, by rw [N 2 (by omega)]; exact a2, by simp [mPa, zup], by rw [N 4 (by omega)]; exact a4⟩, by omega, ⟨fun i hi => ?_, by rw [R 32 (by omega)]; exact h2.2⟩, fun p hp => ?_, by rw [R 25 (by omega), R 26 (by omega), R 27 (by omega)]; exact h4, by unfold pd; rw [R 28 (by omega)]; exact h5, by unfold bk; rw [R 38 (by omega)]; exact h6, by rw [R 43 (by omega), R 44 (by omega)]; exact h7⟩
  · rw [R 29 (by omega), R (29 + 1) (by omega), R (29 + 2) (by omega), R (29 + 3) (by omega)]; exact h2.1 i hi
  · by_cases e : p = pc
    · subst e
      have e1 : mPa M p (m : Int) f a (t : Int) 33 p = (m : Int) := by simp [mPa, zup]
      have e2 : mPa M p (m : Int) f a (t : Int) 34 p = f := by simp [mPa, zup]
      have e3 : mPa M p (m : Int) f a (t : Int) 35 p = a := by simp [mPa, zup]
      have e4 : mPa M p (m : Int) f a (t : Int) 36 p = (t : Int) := by simp [mPa, zup]
      have e5 : mPa M p (m : Int) f a (t : Int) 37 p = -1 := by simp [mPa, zup]
      rw [e1, e2, e3, e4, e5]
      omega
    · rw [mPa_at (by omega) e, mPa_at (by omega) e, mPa_at (by omega) e, mPa_at (by omega) e, mPa_at (by omega) e]; exact h3 p (by omega)
theorem cpl.paper {m : Nat} {f a : Int} {L' : List Nat} (hC : cpl n sh I P M t mc rc pc bc ma pa Ls r rl) (hO : mOk M t mc rc pc bc c) (hB : yB n sh P) (hm0 : m < mc) (hpc : pc < 200)
    (hs1 : ∀ x, x < n → sh' x = sh x) (hs2 : sh' n = (0, 3))
    (hI1 : ∀ x, x < n → x ≠ 0 → x ≠ ma m → I' x = I x) (hI0 : ∀ b, b ≠ 7 → I' 0 b = I 0 b) (hI07 : I' 0 7 = (pc : Int) + 1) (hIm : ∀ b, b ≠ 7 → I' (ma m) b = I (ma m) b) (hIm7 : I' (ma m) 7 = 1) (hIn : I' n 0 = (m : Int) ∧ I' n 1 = f ∧ I' n 2 = a ∧ I' n 3 = (t : Int) ∧ I' n 4 = -1)
    (hP1 : ∀ x b, x < n → ¬ (x = 2 ∧ b = pc) → ¬ (x = ma m ∧ b = 8) → ¬ (b = 5 ∧ x ∈ Ls m) → P' x b = P x b) (hP2 : P' 2 pc = some n)
    (hL' : chn P' (P' (ma m) 8) L' ∧ srt I' L' ∧ L'.Nodup ∧ ∀ y, y ∈ L' ↔ (y = n ∨ y ∈ Ls m)) :
    cpl (n + 1) sh' I' P' (mPa M pc (m : Int) f a (t : Int)) t mc rc (pc + 1) bc ma (upN pa pc n) (upL Ls m L') r rl := by
  have R : ∀ k, k < 24 ∨ 37 < k ∨ (24 < k ∧ k < 33) → mPa M pc (m : Int) f a (t : Int) k = M k := fun k h1 => mPa_ne h1
  have hpp := fun m hm => cpl.pp hO hC (m := m) hm
  have ht := hO.2.1
  have hn := hB.1
  have hsR := fun m hm => cpl.sep hC (m := m) hm
  obtain ⟨h0, h1, h2, hm, hs, hmi, hp, hpi, hL, hE, hT⟩ := hC
  have hlt : ∀ m, m < mc → 52 ≤ ma m ∧ ma m + 3 < n := fun m h => (hm m h).2.1.1
  have hl0 := hlt m hm0
  have hMb0 := (hm m hm0).2.1
  have hpl : ∀ p, p < pc → 52 ≤ pa p ∧ pa p < n := fun p h => (hp p h).2.1
  have h52 : ∀ x, x ∈ Ls m → 52 ≤ x := fun x hx => (hpp m hm0 x hx).1.1
  have hsh3 : ∀ x, x ∈ Ls m → sh x = (0, 3) := fun x hx => (hpp m hm0 x hx).2.1
  have hPl : ∀ x b, x < 52 → ¬ (x = 2 ∧ b = pc) → P' x b = P x b := fun x b g1 g2 => hP1 x b (by omega) g2 (by omega) (fun z => by have := h52 x z.2; omega)
  refine ⟨⟨by rw [hI0 6 (by omega)]; exact h0.1, by rw [hI07]; omega, by rw [hI0 8 (by omega)]; exact h0.2.2⟩, h1.to (fun x a1 a2 => hI1 x (by omega) (by omega) (by omega)) (fun i _ k a1 a2 => by rw [R k (by omega)]), h2.to (hI1 17 (by omega) (by omega) (by omega)), fun m' hmm => ⟨by rw [hPl 1 m' (by omega) (by omega)]; exact (hm m' hmm).1, ?_⟩, fun m' hmm h7 => ?_, hmi, fun p hpp => ?_, fun p p' g1 g2 => ?_, fun m' hmm x => ?_, hE.to (by omega) hs1 (by rw [hI1 19 (by omega) (by omega) (by omega)]) (hPl 19 0 (by omega) (by omega)) (hI1 r hE.2.1.2.1 (by have := hE.2.1.1; omega) (hsR m hm0).1) (fun k a1 a2 => R k (by omega)), fun i hi => by rw [hI1 22 (by omega) (by omega) (by omega), hI1 23 (by omega) (by omega) (by omega), R 43 (by omega), R 44 (by omega)]; exact hT i hi⟩
  · have hMb := (hm m' hmm).2.1
    have hl := hlt m' hmm
    have hse := hMb0.sep hMb
    have hPb : ∀ b, b ≠ 8 → P' (ma m') b = P (ma m') b := fun b hb => hP1 (ma m') b (by omega) (by omega) (by omega) (fun z => by have := hsh3 _ z.2; rw [hMb.2.1] at this; cases this)
    have hpdd : ∀ k, pd (mPa M pc (m : Int) f a (t : Int)) m' k = pd M m' k := fun k => by unfold pd; rw [R 28 (by omega)]
    have hbkk : ∀ k, bk (mPa M pc (m : Int) f a (t : Int)) m' k = bk M m' k := fun k => by unfold bk; rw [R 38 (by omega)]
    by_cases e : m' = m
    · subst e
      rw [upL_eq]
      obtain ⟨g1, g2, g3, g4, g5, g6, g7, g8, g9⟩ := (hm m' hmm).2
      refine ⟨g1.to (by omega) hs1 (fun b b1 b2 => hPb b (by omega)), ?_, fun w hw => ?_, fun w hw => ?_, ?_, Or.inr hIm7, hL'.1, hL'.2.1, hL'.2.2.1⟩
      · rw [hIm 0 (by omega), hIm 1 (by omega), hIm 2 (by omega), R 25 (by omega), R 26 (by omega), R 27 (by omega)]; exact g2
      · rw [hI1 (ma m' + 1) (by omega) (by omega) (by omega), g3 w hw]; exact sm_cong (fun k _ => (hpdd k).symm)
      · rw [hI1 (ma m' + 2) (by omega) (by omega) (by omega), g4 w hw]; exact (hbkk w).symm
      · rw [hIm 6 (by omega), g5]; exact sm_cong (fun k _ => (hbkk k).symm)
    · have hne : ma m' ≠ ma m := fun z => e (hmi m' m hmm hm0 z)
      rw [upL_ne e]
      refine (hm m' hmm).2.to (by omega) (by omega) hs1 (fun b _ => by rw [hI1 (ma m') (by omega) (by omega) hne]) (by rw [hI1 (ma m') (by omega) (by omega) hne]; exact (hm m' hmm).2.2.2.2.2.2.1) (hI1 _ (by omega) (by omega) (fun z => hse.1 z.symm)) (hI1 _ (by omega) (by omega) (fun z => hse.2.1 z.symm)) (fun x hx => ?_) (fun b => hP1 (ma m') b (by omega) (by omega) (fun z => hne z.1) (fun z => by have := hsh3 _ z.2; rw [hMb.2.1] at this; cases this)) (fun x hx => ?_) (fun k a1 a2 => by rw [R k (by omega)]) (fun k _ => hpdd k) (fun k _ => hbkk k)
      · have h9 := hpp m' hmm x hx
        have h9b := h9.1
        rw [hI1 x h9.1.2 (by omega) (fun z => by have := h9.2.1; rw [z, hMb0.2.1] at this; cases this)]
      · have h9 := hpp m' hmm x hx
        have h9b := h9.1
        refine hP1 x 5 h9.1.2 (by omega) (by omega) (fun z => ?_)
        obtain ⟨p1, q1, q2, q3⟩ := (hL m' hmm x).mp hx
        obtain ⟨p2, r1, r2, r3⟩ := (hL m hm0 x).mp z.2
        have := hpi p1 p2 q1 r1 (q3.symm.trans r3)
        subst this
        omega
  · have hl := hlt m' hmm
    by_cases e : m' = m
    · subst e; rw [hIm7] at h7; cases h7
    · have hne : ma m' ≠ ma m := fun z => e (hmi m' m hmm hm0 z)
      rw [hI1 (ma m') (by omega) (by omega) hne] at h7
      have hpn : mPa M pc (m : Int) f a (t : Int) 33 pc = (m : Int) := by simp [mPa, zup]
      refine (hs m' hmm h7).to (fun i _ k a1 a2 => by rw [R k (by omega)]) (fun d => ?_) (fun k hk => by unfold pd; rw [R 28 (by omega)]) (by unfold jn; rw [R 27 (by omega)]) (fun w hw => by unfold bk; rw [R 38 (by omega)]) (fun p hp hz => ?_)
      · apply bool_iff
        unfold SKm
        rw [sSk_iff, sSk_iff]
        constructor
        · rintro ⟨i, b1, b2, b3⟩
          have hi : i ≠ pc := fun z => by rw [z, hpn] at b2; omega
          rw [mPa_at (by omega) hi] at b2
          rw [mPa_at (by omega) hi, mPa_at (by omega) hi, mPa_at (by omega) hi, mPa_at (by omega) hi] at b3
          exact ⟨i, by omega, b2, b3⟩
        · rintro ⟨i, b1, b2, b3⟩
          have hi : i ≠ pc := by omega
          refine ⟨i, by omega, by rw [mPa_at (by omega) hi]; exact b2, ?_⟩
          rw [mPa_at (by omega) hi, mPa_at (by omega) hi, mPa_at (by omega) hi, mPa_at (by omega) hi]; exact b3
      · have hi : p ≠ pc := fun z => by rw [z, hpn] at hz; omega
        rw [mPa_at (by omega) hi] at hz ⊢
        exact (hs m' hmm h7).1 p (by omega) hz
  · by_cases e : p = pc
    · subst e
      rw [upN_eq]
      refine ⟨hP2, ⟨by omega, by omega⟩, hs2, ?_⟩
      rw [hIn.1, hIn.2.1, hIn.2.2.1, hIn.2.2.2.1, hIn.2.2.2.2]
      simp [mPa, zup]
    · have hp1 : p < pc := by omega
      have hl := hpl p hp1
      rw [upN_ne e]
      refine ⟨by rw [hPl 2 p (by omega) (by omega)]; exact (hp p hp1).1, (hp p hp1).2.to (by omega) hs1 (hI1 _ (by omega) (by omega) (cPa.sep hMb0 (hp p hp1).2).1) (fun k a1 a2 => mPa_at (by omega) e)⟩
  · by_cases e1 : p = pc
    · by_cases e2 : p' = pc
      · omega
      · rw [e1, upN_eq, upN_ne e2]; have := hpl p' (by omega); omega
    · by_cases e2 : p' = pc
      · rw [e2, upN_eq, upN_ne e1]; have := hpl p (by omega); omega
      · rw [upN_ne e1, upN_ne e2]; exact hpi p p' (by omega) (by omega)
  · have hpn : mPa M pc (m : Int) f a (t : Int) 33 pc = (m : Int) := by simp [mPa, zup]
    have key : (∃ p, p < pc + 1 ∧ mPa M pc (m : Int) f a (t : Int) 33 p = (m' : Int) ∧ x = upN pa pc n p) ↔ ((m' = m ∧ x = n) ∨ ∃ p, p < pc ∧ M 33 p = (m' : Int) ∧ x = pa p) := by
      constructor
      · rintro ⟨p, b1, b2, b3⟩
        by_cases e : p = pc
        · subst e; rw [hpn] at b2; rw [upN_eq] at b3; exact Or.inl ⟨by omega, b3⟩
        · rw [mPa_at (by omega) e] at b2; rw [upN_ne e] at b3; exact Or.inr ⟨p, by omega, b2, b3⟩
      · rintro (⟨rfl, b1⟩ | ⟨p, b1, b2, b3⟩)
        · exact ⟨pc, by omega, hpn, by rw [upN_eq]; exact b1⟩
        · exact ⟨p, by omega, by rw [mPa_at (by omega) (by omega)]; exact b2, by rw [upN_ne (by omega)]; exact b3⟩
    rw [key, ← hL m' hmm x]
    by_cases e : m' = m
    · subst e
      rw [upL_eq, hL'.2.2.2 x]
      constructor
      · rintro (b | b)
        · exact Or.inl ⟨rfl, b⟩
        · exact Or.inr b
      · rintro (⟨-, b⟩ | b)
        · exact Or.inl b
        · exact Or.inr b
    · rw [upL_ne e]
      constructor
      · exact Or.inr
      · rintro (⟨b, -⟩ | b)
        · exact absurd b e
        · exact b
end MOV3
