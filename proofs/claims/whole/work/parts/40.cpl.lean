/-! the class and the reference side by side: what holds between calls -/
theorem sFI_ext {I I' : Nat → Nat → Int} {o o' k : Nat} {w q : Int} : ∀ {r : Nat}, (∀ i, i < r → I' o' i = I o i ∧ I' (o' + 1) i = I (o + 1) i ∧ I' (o' + 2) i = I (o + 2) i ∧ I' (o' + 3) i = I (o + 3) i) → sFI I' o' k w q r = sFI I o k w q r
  | 0, _ => rfl
  | r + 1, h => by
    obtain ⟨h1, h2, h3, h4⟩ := h r (by omega)
    rw [sFI_succ, sFI_succ, sFI_ext (fun i hi => h i (by omega)), h1, h2, h3, h4]
theorem sSk_iff {po pf pl pt pb : Nat → Int} {m q d : Int} : ∀ {p : Nat}, sSk po pf pl pt pb m q d p = true ↔ ∃ i, i < p ∧ po i = m ∧ (pt i ≤ q ∧ (pb i = -1 ∨ q < pb i)) ∧ pf i ≤ d ∧ d ≤ pl i
  | 0 => ⟨fun h => (by cases h), fun ⟨i, hi, _⟩ => absurd hi (Nat.not_lt_zero i)⟩
  | p + 1 => by
    rw [sSk, Bool.or_eq_true, sSk_iff (p := p), decide_eq_true_eq]
    constructor
    · rintro (⟨i, h1, h2⟩ | h)
      · exact ⟨i, by omega, h2⟩
      · exact ⟨p, by omega, h⟩
    · rintro ⟨i, h1, h2⟩
      by_cases e : i = p
      · subst e; exact Or.inr h2
      · exact Or.inl ⟨i, by omega, h2⟩
theorem sGr_w {sk sk' : Nat → Bool} {V V' : Nat → Nat → Int} {out out' : Nat → Bool} {w D D' : Nat} (hs : ∀ d, d < 7 * w + 7 → sk d = sk' d) (hV : ∀ k j, k < 7 → j ≤ w → V k j = V' k j) (ho : out w = out' w) (hD : 7 * w + 7 ≤ D) (hD' : 7 * w + 7 ≤ D') : sGr sk V out w D = sGr sk' V' out' w D' := by
  have h1 : ∀ (s : Nat → Bool) (U : Nat → Nat → Int) (o : Nat → Bool) (X : Nat), 7 * w + 7 ≤ X → sGr s U o w X = sGr s U o w (7 * w + 7) := fun s U o X hX => sm_zero_tail hX (fun k h2 _ => if_neg (by omega))
  rw [h1 sk V out D hD, h1 sk' V' out' D' hD']
  refine sm_cong (fun d hd => ?_)
  by_cases e : d / 7 = w
  · rw [if_pos e, if_pos e, sCo_ext (S := sk) (S' := sk') (fun x hx => hs x (by omega))]
    have hb := sSt_b sk' (V' 5) d
    unfold sCo
    rw [sSt_cong (t := w) (fun w' hw => hV 5 w' (by omega) hw) (d + 1) (by omega), e, ho, hV 2 w (by omega) (by omega), hV 1 _ (by omega) (by omega : (sSt sk' (V' 5) (d + 1)).2.1 ≤ w), hV 3 _ (by omega) (by omega : (sSt sk' (V' 5) (d + 1)).2.1 ≤ w), hV 4 _ (by omega) (by omega : (sSt sk' (V' 5) (d + 1)).2.1 ≤ w)]
  · rw [if_neg e, if_neg e]
theorem sWh_w {sk sk' : Nat → Bool} {V V' : Nat → Nat → Int} {out out' : Nat → Bool} {d : Nat} (hs : ∀ x, x ≤ d → sk x = sk' x) (hV : ∀ k j, k < 7 → j ≤ d / 7 → V k j = V' k j) (ho : out (d / 7) = out' (d / 7)) : sWh sk V out d = sWh sk' V' out' d := by
  rw [sWh_ext (S := sk) (S' := sk') hs]
  have hb := sSt_b sk' (V' 5) d
  unfold sWh
  rw [sSt_cong (t := d / 7) (fun w' hw => hV 5 w' (by omega) hw) (d + 1) (by omega), ho, hV 1 _ (by omega) (by omega : (sSt sk' (V' 5) (d + 1)).2.1 ≤ d / 7), hV 3 _ (by omega) (by omega : (sSt sk' (V' 5) (d + 1)).2.1 ≤ d / 7), hV 4 _ (by omega) (by omega : (sSt sk' (V' 5) (d + 1)).2.1 ≤ d / 7)]
/-- the reference's state is sound; c calls were made -/
def mOk (M : Nat → Nat → Int) (t mc rc pc bc c : Nat) : Prop :=
  (M 24 0 = (t : Int) ∧ M 24 1 = (mc : Int) ∧ M 24 2 = (rc : Int) ∧ M 24 3 = (pc : Int) ∧ M 24 4 = (bc : Int)) ∧
  (t ≤ 300 ∧ mc ≤ 40 ∧ rc ≤ 200 ∧ pc ≤ 200 ∧ bc ≤ 20000 ∧ c ≤ 512) ∧
  (yRl M 29 rc ∧ ∀ i, i < rc → M 32 i ≤ (t : Int)) ∧
  (∀ p, p < pc → (0 ≤ M 33 p ∧ M 33 p < (mc : Int)) ∧ (0 ≤ M 34 p ∧ M 34 p ≤ M 35 p ∧ M 35 p ≤ 7 * M 36 p + 6) ∧ (0 ≤ M 36 p ∧ M 36 p ≤ (t : Int)) ∧ (-1 ≤ M 37 p ∧ M 37 p ≤ (t : Int))) ∧
  (∀ i, i < mc → (16 ≤ M 25 i ∧ M 25 i ≤ 60) ∧ (0 ≤ M 26 i ∧ M 26 i ≤ 3) ∧ (0 ≤ M 27 i ∧ M 27 i ≤ (t : Int))) ∧
  ((∀ i, 0 ≤ M 28 i) ∧ (∀ m, m < 40 → sm (pd M m) 301 ≤ 1000 * (c : Int)) ∧ ∀ m w, m < 40 → w < 301 → (mc ≤ m ∨ t < w) → pd M m w = 0) ∧
  ((∀ i, 0 ≤ M 38 i ∧ M 38 i ≤ 842800) ∧ ∀ m w, m < 40 → w < 301 → (mc ≤ m ∨ t ≤ w) → bk M m w = 0) ∧
  ∀ i, i < 100 → (0 ≤ M 43 i ∧ M 43 i ≤ 1000) ∧ (0 ≤ M 44 i ∧ M 44 i ≤ 365)
theorem mOk.pap {M : Nat → Nat → Int} {t mc rc pc bc c : Nat} (h : mOk M t mc rc pc bc c) : mPap M pc t := fun p hp => by
  have h1 := h.2.2.2.1 p hp
  have h2 := h.2.1
  omega
theorem mOk.jo {M : Nat → Nat → Int} {t mc rc pc bc c : Nat} (h : mOk M t mc rc pc bc c) : ∀ i, i < mc → 0 ≤ M 27 i ∧ M 27 i ≤ (t : Int) := fun i hi => (h.2.2.2.2.1 i hi).2.2
theorem mOk.ps {M : Nat → Nat → Int} {t mc rc pc bc c : Nat} (h : mOk M t mc rc pc bc c) : ∀ m, m < mc → sm (pd M m) 301 ≤ 1000000 := fun m hm => by
  have h1 := h.2.2.2.2.2.1.2.1 m (by have := h.2.1; omega)
  have h2 := h.2.1
  omega
theorem mOk.jnn {M : Nat → Nat → Int} {t mc rc pc bc c : Nat} (h : mOk M t mc rc pc bc c) {m : Nat} (hm : m < mc) : M 27 m = ((jn M m : Nat) : Int) ∧ jn M m ≤ t := by
  have := h.jo m hm
  unfold jn
  omega
def cMe (n : Nat) (sh : Nat → Nat × Nat) (I : Nat → Nat → Int) (P : Nat → Nat → Option Nat) (M : Nat → Nat → Int) (t m a : Nat) (L : List Nat) : Prop :=
  yMb n sh P a ∧ (I a 0 = M 25 m ∧ I a 1 = M 26 m ∧ I a 2 = M 27 m) ∧ (∀ w, w ≤ t → I (a + 1) w = sm (pd M m) (w + 1)) ∧ (∀ w, w ≤ 300 → I (a + 2) w = bk M m w) ∧ I a 6 = sm (bk M m) 301 ∧ (I a 7 = 0 ∨ I a 7 = 1) ∧ chn P (P a 8) L ∧ srt I L ∧ L.Nodup
def cPa (n : Nat) (sh : Nat → Nat × Nat) (I : Nat → Nat → Int) (M : Nat → Nat → Int) (p x : Nat) : Prop := (52 ≤ x ∧ x < n) ∧ sh x = (0, 3) ∧ I x 0 = M 33 p ∧ I x 1 = M 34 p ∧ I x 2 = M 35 p ∧ I x 3 = M 36 p ∧ I x 4 = M 37 p
/-- nothing is to be booked for a member -/
def cln (M : Nat → Nat → Int) (t rc pc m : Nat) : Prop := (∀ p, p < pc → M 33 p = (m : Int) → M 36 p < (t : Int)) ∧ ∀ w, w < t → GRm M m t pc rc w (7 * t + 7) = bk M m w
def cRu (I M : Nat → Nat → Int) (rc : Nat) : Prop := I 3 4 = (rc : Int) ∧ (∀ i, i < rc → I 4 i = M 29 i ∧ I 5 i = M 30 i ∧ I 6 i = M 31 i ∧ I 7 i = M 32 i) ∧ yTo I rc ∧ cok I ∧ I 3 7 ≤ (rc : Int)
def cLe (n : Nat) (sh : Nat → Nat × Nat) (I : Nat → Nat → Int) (P : Nat → Nat → Option Nat) (M : Nat → Nat → Int) (bc r rl : Nat) : Prop :=
  (I 19 1 = (bc : Int) ∧ P 19 0 = some r) ∧ ((r = 20 ∨ 52 ≤ r) ∧ r < n ∧ sh r = (1, rl)) ∧ (64 ≤ rl ∧ rl ≤ 80000 ∧ rl % 4 = 0 ∧ 4 * bc ≤ rl) ∧ ∀ i, i < bc → I r (4 * i) = M 39 i ∧ I r (4 * i + 1) = M 40 i ∧ I r (4 * i + 2) = M 41 i ∧ I r (4 * i + 3) = M 42 i
/-- the class's cells tell the state M of the reference -/
def cpl (n : Nat) (sh : Nat → Nat × Nat) (I : Nat → Nat → Int) (P : Nat → Nat → Option Nat) (M : Nat → Nat → Int) (t mc rc pc bc : Nat) (ma pa : Nat → Nat) (Ls : Nat → List Nat) (r rl : Nat) : Prop :=
  (I 0 6 = (mc : Int) ∧ I 0 7 = (pc : Int) ∧ I 0 8 = (t : Int)) ∧ cRu I M rc ∧ cOk I ∧
  (∀ m, m < mc → P 1 m = some (ma m) ∧ cMe n sh I P M t m (ma m) (Ls m)) ∧
  (∀ m, m < mc → I (ma m) 7 = 0 → cln M t rc pc m) ∧
  (∀ m m', m < mc → m' < mc → ma m = ma m' → m = m') ∧
  (∀ p, p < pc → P 2 p = some (pa p) ∧ cPa n sh I M p (pa p)) ∧
  (∀ p p', p < pc → p' < pc → pa p = pa p' → p = p') ∧
  (∀ m, m < mc → ∀ x, x ∈ Ls m ↔ ∃ p, p < pc ∧ M 33 p = (m : Int) ∧ x = pa p) ∧
  cLe n sh I P M bc r rl ∧ ∀ i, i < 100 → I 22 i = M 43 i ∧ I 23 i = M 44 i
theorem srt_ext {I I' : Nat → Nat → Int} : ∀ {L : List Nat}, (∀ x, x ∈ L → I' x 1 = I x 1) → srt I L → srt I' L
  | [], _, _ => trivial
  | x :: t, h, hs => by
    refine ⟨fun y hy => ?_, srt_ext (fun z hz => h z (List.mem_cons_of_mem _ hz)) hs.2⟩
    rw [h x List.mem_cons_self, h y (List.mem_cons_of_mem _ hy)]
    exact hs.1 y hy
section CPL
variable {n : Nat} {sh : Nat → Nat × Nat} {I : Nat → Nat → Int} {P : Nat → Nat → Option Nat} {M : Nat → Nat → Int} {t mc rc pc bc c : Nat} {ma pa : Nat → Nat} {Ls : Nat → List Nat} {r rl : Nat}
theorem cpl.Rl (hO : mOk M t mc rc pc bc c) (hC : cpl n sh I P M t mc rc pc bc ma pa Ls r rl) : yRl I 4 rc := fun i hi => by
  obtain ⟨h1, h2, h3, h4⟩ := hC.2.1.2.1 i hi
  have h5 := hO.2.2.1.1 i hi
  show (0 ≤ I 4 i ∧ I 4 i ≤ 6) ∧ (0 ≤ I 5 i ∧ I 5 i ≤ 1000) ∧ (0 ≤ I 6 i ∧ I 6 i ≤ 400) ∧ (0 ≤ I 7 i ∧ I 7 i ≤ 300)
  rw [h1, h2, h3, h4]
  exact h5
theorem cpl.pp (hO : mOk M t mc rc pc bc c) (hC : cpl n sh I P M t mc rc pc bc ma pa Ls r rl) {m : Nat} (hm : m < mc) : ∀ x, x ∈ Ls m → yPp n sh I x := fun x hx => by
  obtain ⟨p, hp, -, rfl⟩ := (hC.2.2.2.2.2.2.2.2.1 m hm x).mp hx
  obtain ⟨-, h1, h2, h3, h4, h5, h6, h7⟩ := hC.2.2.2.2.2.2.1 p hp
  have h8 := hO.2.2.2.1 p hp
  have h9 := hO.2.1
  refine ⟨h1, h2, ?_⟩
  rw [h4, h5, h6, h7]
  omega
/-- what is in force by the class's rows -/
theorem cpl.fo (hO : mOk M t mc rc pc bc c) (hC : cpl n sh I P M t mc rc pc bc ma pa Ls r rl) (k : Nat) (w q : Int) : (sGI I k w (sKn (I 7) q rc)).2 = (sFI M 29 k w q rc).2 := by
  rw [sG_known (cpl.Rl hO hC) hC.2.1.2.2.1, sFI_ext (I := M) (I' := I) (o := 29) (o' := 4) hC.2.1.2.1]
theorem cpl.V {I' : Nat → Nat → Int} (hO : mOk M t mc rc pc bc c) (hC : cpl n sh I P M t mc rc pc bc ma pa Ls r rl) {q : Int} {T : Nat} (hl : lkF I I') (ht : tbl I' (sKn (I 7) q rc) T) {k w : Nat} (hk : k < 7) (hw : w ≤ T) : bV I' k w = vF M q rc k w := by
  show I' (9 + k) w = _
  rw [ht.1 k w hk hw, hl.sG, cpl.fo hO hC]
  rfl
/-- ARREARS and OUT by the class's rows: V the table as it was looked at -/
theorem cMe.ar {a m j w q : Nat} {L : List Nat} {V : Nat → Nat → Int} (h : cMe n sh I P M t m a L) (hV : ∀ w, w ≤ t → I 9 w = V 0 w) (h16 : ∀ w, w ≤ t → I 16 w = sm (I 9) w) (hw : w ≤ t) : bAr I a w q j = arr (V 0) (pd M m) j w q := by
  unfold bAr arr
  rw [h.2.2.1 (min w q) (by omega)]
  by_cases e : j < w
  · rw [if_pos e, if_pos e, h16 w hw, h16 j (by omega), sm_cong (f := I 9) (g := V 0) (n := w) (fun k hk => hV k (by omega)), sm_cong (f := I 9) (g := V 0) (n := j) (fun k hk => hV k (by omega))]
  · rw [if_neg e, if_neg e]
theorem cMe.ou {a m j w q : Nat} {L : List Nat} {V : Nat → Nat → Int} (h : cMe n sh I P M t m a L) (hV : ∀ k w, k < 7 → w ≤ t → bV I k w = V k w) (h16 : ∀ w, w ≤ t → I 16 w = sm (I 9) w) (hw : w ≤ t) : bOu I a q j w = outB V (pd M m) j q w := by
  unfold bOu outB
  have e6 : I 15 w = V 6 w := hV 6 w (by omega) hw
  have e0 : I 9 w = V 0 w := hV 0 w (by omega) hw
  rw [cMe.ar h (fun w hw => hV 0 w (by omega) hw) h16 hw, e6, e0]
theorem cpl.sk (hC : cpl n sh I P M t mc rc pc bc ma pa Ls r rl) {m q d : Nat} (hm : m < mc) : skP I q (Ls m) d ↔ SKm M m q pc d = true := by
  unfold SKm
  rw [sSk_iff]
  constructor
  · rintro ⟨x, hx, hk, h1, h2⟩
    obtain ⟨p, hp, hpm, rfl⟩ := (hC.2.2.2.2.2.2.2.2.1 m hm x).mp hx
    obtain ⟨-, -, -, -, g1, g2, g3, g4⟩ := hC.2.2.2.2.2.2.1 p hp
    unfold knX at hk
    rw [g3, g4] at hk
    rw [g1] at h1
    rw [g2] at h2
    exact ⟨p, hp, hpm, hk, h1, h2⟩
  · rintro ⟨p, hp, hpm, hk, h1, h2⟩
    obtain ⟨-, -, -, -, g1, g2, g3, g4⟩ := hC.2.2.2.2.2.2.1 p hp
    refine ⟨pa p, (hC.2.2.2.2.2.2.2.2.1 m hm _).mpr ⟨p, hp, hpm, rfl⟩, ?_, by rw [g1]; exact h1, by rw [g2]; exact h2⟩
    unfold knX
    rw [g3, g4]
    exact hk
theorem isS.eq {I : Nat → Nat → Int} {q D m pc : Nat} {L : List Nat} {S : Nat → Bool} (h : isS I q D L S) (hs : ∀ d, skP I q L d ↔ SKm M m q pc d = true) {d : Nat} (hd : d ≤ D) : S d = SKm M m q pc d := by
  have h1 := h d
  rw [hs d] at h1
  cases e : SKm M m q pc d with
  | true => exact h1.mpr ⟨hd, e⟩
  | false =>
    cases e2 : S d with
    | false => rfl
    | true => rw [(h1.mp e2).2] at e; cases e
/-- what does not matter to the class may change -/
theorem cpl.fr {I' : Nat → Nat → Int} {P' : Nat → Nat → Option Nat} (hC : cpl n sh I P M t mc rc pc bc ma pa Ls r rl) (hO : mOk M t mc rc pc bc c)
    (hI : ∀ a b, ¬ (9 ≤ a ∧ a ≤ 18) → ¬ (24 ≤ a ∧ a ≤ 51) → ¬ (a = 3 ∧ (b = 7 ∨ b = 8)) → ¬ (4 ≤ a ∧ a ≤ 7 ∧ rc ≤ b) → I' a b = I a b) (h1 : cok I') (h2 : I' 3 7 ≤ (rc : Int)) (h3 : cOk I')
    (hP : ∀ a b, a ≠ 17 → (a < 24 ∨ 52 ≤ a) → P' a b = P a b) : cpl n sh I' P' M t mc rc pc bc ma pa Ls r rl := by
  have hpp := fun m hm => cpl.pp hO hC (m := m) hm
  obtain ⟨⟨a1, a2, a3⟩, ⟨b1, b2, b3, b4, b5⟩, -, hm, hs, hmi, hp, hpi, hL, ⟨⟨e1, e2⟩, ⟨e3, e4, e5⟩, e6, e7⟩, hT⟩ := hC
  refine ⟨⟨by rw [hI 0 6 (by omega) (by omega) (by omega) (by omega)]; exact a1, by rw [hI 0 7 (by omega) (by omega) (by omega) (by omega)]; exact a2, by rw [hI 0 8 (by omega) (by omega) (by omega) (by omega)]; exact a3⟩, ⟨by rw [hI 3 4 (by omega) (by omega) (by omega) (by omega)]; exact b1, fun i hi => ?_, fun i hi => ?_, h1, h2⟩, h3, fun m hmm => ?_, fun m hmm => ?_, hmi, fun p hpp => ?_, hpi, hL, ⟨⟨by rw [hI 19 1 (by omega) (by omega) (by omega) (by omega)]; exact e1, by rw [hP 19 0 (by omega) (by omega)]; exact e2⟩, ⟨e3, e4, e5⟩, e6, fun i hi => ?_⟩, fun i hi => ?_⟩
  · rw [hI 4 i (by omega) (by omega) (by omega) (by omega), hI 5 i (by omega) (by omega) (by omega) (by omega), hI 6 i (by omega) (by omega) (by omega) (by omega), hI 7 i (by omega) (by omega) (by omega) (by omega)]; exact b2 i hi
  · rw [hI 7 i (by omega) (by omega) (by omega) (by omega), hI 7 (i + 1) (by omega) (by omega) (by omega) (by omega)]; exact b3 i hi
  · obtain ⟨g0, g1, g2, g3, g4, g5, g6, g7, g8, g9⟩ := hm m hmm
    have ga := g1.1
    have hr : ∀ x b, 52 ≤ x → I' x b = I x b := fun x b hx => hI x b (by omega) (by omega) (by omega) (by omega)
    have hq : ∀ x b, 52 ≤ x → P' x b = P x b := fun x b hx => hP x b (by omega) (by omega)
    refine ⟨by rw [hP 1 m (by omega) (by omega)]; exact g0, ⟨ga, g1.2.1, g1.2.2.1, g1.2.2.2.1, g1.2.2.2.2.1, by rw [hq _ _ ga.1]; exact g1.2.2.2.2.2.1, by rw [hq _ _ ga.1]; exact g1.2.2.2.2.2.2.1, by rw [hq _ _ ga.1]; exact g1.2.2.2.2.2.2.2⟩, ?_, fun w hw => ?_, fun w hw => ?_, ?_, ?_, ?_, ?_, g9⟩
    · rw [hr _ _ ga.1, hr _ _ ga.1, hr _ _ ga.1]; exact g2
    · rw [hr (ma m + 1) w (by omega)]; exact g3 w hw
    · rw [hr (ma m + 2) w (by omega)]; exact g4 w hw
    · rw [hr _ _ ga.1]; exact g5
    · rw [hr _ _ ga.1]; exact g6
    · rw [hq _ _ ga.1]; exact chn_ext (fun x hx => hq x 5 (hpp m hmm x hx).1.1) g7
    · exact srt_ext (fun x hx => hr x 1 (hpp m hmm x hx).1.1) g8
  · have ga := (hm m hmm).2.1.1
    rw [hI (ma m) 7 (by omega) (by omega) (by omega) (by omega)]
    exact hs m hmm
  · obtain ⟨g0, g1, g2, g3⟩ := hp p hpp
    have hr : ∀ b, I' (pa p) b = I (pa p) b := fun b => hI (pa p) b (by omega) (by omega) (by omega) (by omega)
    refine ⟨by rw [hP 2 p (by omega) (by omega)]; exact g0, g1, g2, ?_⟩
    rw [hr, hr, hr, hr, hr]; exact g3
  · have hr : ∀ b, I' r b = I r b := fun b => hI r b (by omega) (by omega) (by omega) (by omega)
    rw [hr, hr, hr, hr]; exact e7 i hi
  · rw [hI 22 i (by omega) (by omega) (by omega) (by omega), hI 23 i (by omega) (by omega) (by omega) (by omega)]; exact hT i hi
/-- the states M and M' are alike but for scratch -/
def mEq (M M' : Nat → Nat → Int) (rc : Nat) : Prop := ∀ a b, 24 ≤ a → a ≤ 44 → ¬ (a = 24 ∧ b = 26) → ¬ (29 ≤ a ∧ a ≤ 32 ∧ rc ≤ b) → M' a b = M a b
theorem mEq.row {M' : Nat → Nat → Int} (h : mEq M M' rc) (a : Nat) (h1 : 25 ≤ a) (h2 : a ≤ 44) (h3 : a < 29 ∨ 32 < a) : M' a = M a := funext fun b => h a b (by omega) h2 (by omega) (by omega)
theorem mEq.ru {M' : Nat → Nat → Int} (h : mEq M M' rc) : ∀ i, i < rc → M' 29 i = M 29 i ∧ M' 30 i = M 30 i ∧ M' 31 i = M 31 i ∧ M' 32 i = M 32 i := fun i hi => ⟨h 29 i (by omega) (by omega) (by omega) (by omega), h 30 i (by omega) (by omega) (by omega) (by omega), h 31 i (by omega) (by omega) (by omega) (by omega), h 32 i (by omega) (by omega) (by omega) (by omega)⟩
theorem mEq.eV {M' : Nat → Nat → Int} (h : mEq M M' rc) (q : Int) : vF M' q rc = vF M q rc := by
  funext k w
  unfold vF
  rw [sFI_ext (I := M) (I' := M') (o := 29) (o' := 29) h.ru]
theorem mEq.eP {M' : Nat → Nat → Int} (h : mEq M M' rc) : pd M' = pd M := by funext m; unfold pd; rw [h.row 28 (by omega) (by omega) (by omega)]
theorem mEq.eB {M' : Nat → Nat → Int} (h : mEq M M' rc) : bk M' = bk M := by funext m; unfold bk; rw [h.row 38 (by omega) (by omega) (by omega)]
theorem mEq.eJ {M' : Nat → Nat → Int} (h : mEq M M' rc) : jn M' = jn M := by funext m; unfold jn; rw [h.row 27 (by omega) (by omega) (by omega)]
theorem mEq.SK {M' : Nat → Nat → Int} (h : mEq M M' rc) (m q p d : Nat) : SKm M' m q p d = SKm M m q p d := by
  unfold SKm
  rw [h.row 33 (by omega) (by omega) (by omega), h.row 34 (by omega) (by omega) (by omega), h.row 35 (by omega) (by omega) (by omega), h.row 36 (by omega) (by omega) (by omega), h.row 37 (by omega) (by omega) (by omega)]
theorem mEq.GR {M' : Nat → Nat → Int} (h : mEq M M' rc) (m q pc w D : Nat) : GRm M' m q pc rc w D = GRm M m q pc rc w D := by
  unfold GRm
  rw [h.eV, h.eP, h.eJ, show (fun d => SKm M' m q pc d) = (fun d => SKm M m q pc d) from funext fun d => h.SK m q pc d]
theorem mEq.WH {M' : Nat → Nat → Int} (h : mEq M M' rc) (m q pc d : Nat) : WHm M' m q pc rc d = WHm M m q pc rc d := by
  unfold WHm
  rw [h.eV, h.eP, h.eJ, show (fun d => SKm M' m q pc d) = (fun d => SKm M m q pc d) from funext fun d => h.SK m q pc d]
theorem cpl.eq {M' : Nat → Nat → Int} (hC : cpl n sh I P M t mc rc pc bc ma pa Ls r rl) (h : mEq M M' rc) : cpl n sh I P M' t mc rc pc bc ma pa Ls r rl := by
  obtain ⟨h0, ⟨b1, b2, b3⟩, h2, hm, hs, hmi, hp, hpi, hL, ⟨e1, e2, e3, e4⟩, hT⟩ := hC
  have R : ∀ a, 25 ≤ a → a ≤ 44 → (a < 29 ∨ 32 < a) → M' a = M a := fun a h1 h2 h3 => h.row a h1 h2 h3
  refine ⟨h0, ⟨b1, fun i hi => ?_, b3⟩, h2, fun m hmm => ?_, fun m hmm h7 => ?_, hmi, fun p hpp => ?_, hpi, fun m hmm x => ?_, ⟨e1, e2, e3, fun i hi => ?_⟩, fun i hi => ?_⟩
  · obtain ⟨r1, r2, r3, r4⟩ := h.ru i hi
    rw [r1, r2, r3, r4]; exact b2 i hi
  · obtain ⟨g0, g1, g2, g3, g4, g5, g6⟩ := hm m hmm
    refine ⟨g0, g1, ?_, ?_, ?_, ?_, g6⟩
    · rw [R 25 (by omega) (by omega) (by omega), R 26 (by omega) (by omega) (by omega), R 27 (by omega) (by omega) (by omega)]; exact g2
    · rw [h.eP]; exact g3
    · rw [h.eB]; exact g4
    · rw [h.eB]; exact g5
  · obtain ⟨c1, c2⟩ := hs m hmm h7
    refine ⟨fun p hp => ?_, fun w hw => ?_⟩
    · rw [R 33 (by omega) (by omega) (by omega), R 36 (by omega) (by omega) (by omega)]; exact c1 p hp
    · rw [h.GR, h.eB]; exact c2 w hw
  · obtain ⟨g0, g1, g2, g3⟩ := hp p hpp
    refine ⟨g0, g1, g2, ?_⟩
    rw [R 33 (by omega) (by omega) (by omega), R 34 (by omega) (by omega) (by omega), R 35 (by omega) (by omega) (by omega), R 36 (by omega) (by omega) (by omega), R 37 (by omega) (by omega) (by omega)]; exact g3
  · rw [R 33 (by omega) (by omega) (by omega)]; exact hL m hmm x
  · rw [R 39 (by omega) (by omega) (by omega), R 40 (by omega) (by omega) (by omega), R 41 (by omega) (by omega) (by omega), R 42 (by omega) (by omega) (by omega)]; exact e4 i hi
  · rw [R 43 (by omega) (by omega) (by omega), R 44 (by omega) (by omega) (by omega)]; exact hT i hi
theorem mOk.eq {M' : Nat → Nat → Int} (hO : mOk M t mc rc pc bc c) (h : mEq M M' rc) : mOk M' t mc rc pc bc c := by
  obtain ⟨⟨a0, a1, a2, a3, a4⟩, hb, ⟨r1, r2⟩, hp, hm, ⟨p1, p2, p3⟩, ⟨k1, k2⟩, hT⟩ := hO
  have R : ∀ a, 25 ≤ a → a ≤ 44 → (a < 29 ∨ 32 < a) → M' a = M a := fun a h1 h2 h3 => h.row a h1 h2 h3
  have N : ∀ b, b ≠ 26 → M' 24 b = M 24 b := fun b hb => h 24 b (by omega) (by omega) (by omega) (by omega)
  refine ⟨⟨by rw [N 0 (by decide)]; exact a0, by rw [N 1 (by decide)]; exact a1, by rw [N 2 (by decide)]; exact a2, by rw [N 3 (by decide)]; exact a3, by rw [N 4 (by decide)]; exact a4⟩, hb, ⟨fun i hi => ?_, fun i hi => ?_⟩, fun p hpp => ?_, fun i hi => ?_, ⟨fun i => ?_, ?_, ?_⟩, ⟨fun i => ?_, ?_⟩, fun i hi => ?_⟩
  · obtain ⟨q1, q2, q3, q4⟩ := h.ru i hi
    rw [q1, q2, q3, q4]; exact r1 i hi
  · rw [(h.ru i hi).2.2.2]; exact r2 i hi
  · rw [R 33 (by omega) (by omega) (by omega), R 34 (by omega) (by omega) (by omega), R 35 (by omega) (by omega) (by omega), R 36 (by omega) (by omega) (by omega), R 37 (by omega) (by omega) (by omega)]; exact hp p hpp
  · rw [R 25 (by omega) (by omega) (by omega), R 26 (by omega) (by omega) (by omega), R 27 (by omega) (by omega) (by omega)]; exact hm i hi
  · rw [R 28 (by omega) (by omega) (by omega)]; exact p1 i
  · rw [h.eP]; exact p2
  · rw [h.eP]; exact p3
  · rw [R 38 (by omega) (by omega) (by omega)]; exact k1 i
  · rw [h.eB]; exact k2
  · rw [R 43 (by omega) (by omega) (by omega), R 44 (by omega) (by omega) (by omega)]; exact hT i hi
end CPL
