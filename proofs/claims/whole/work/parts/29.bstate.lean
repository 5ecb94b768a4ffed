/-! the class in the world: its fixed references -/
def p0 (j : Nat) : Option Nat := ([some 1, some 2, some 3, some 17, some 19, some 21] : List (Option Nat)).getD j none
def p3 (j : Nat) : Option Nat := ([some 4, some 5, some 6, some 7, none, some 8, some 16] : List (Option Nat)).getD j none
def p17 (j : Nat) : Option Nat := ([some 3, some 18] : List (Option Nat)).getD j none
def p21 (j : Nat) : Option Nat := ([some 22, some 23] : List (Option Nat)).getD j none
def yB (n : Nat) (sh : Nat → Nat × Nat) (P : Nat → Nat → Option Nat) : Prop := 52 ≤ n ∧ (∀ k, k < 52 → sh k = shF k) ∧ (∀ j, P 0 j = p0 j) ∧ (∀ j, P 3 j = p3 j) ∧ (∀ j, j < 7 → P 8 j = some (9 + j)) ∧ (∀ j, j < 2 → P 17 j = p17 j) ∧ ∀ j, P 21 j = p21 j
theorem yB.lt {n : Nat} {sh : Nat → Nat × Nat} {P : Nat → Nat → Option Nat} (h : yB n sh P) {k : Nat} (hk : k < 52) : k < n := by have := h.1; omega
theorem yB.seen {n : Nat} {sh : Nat → Nat × Nat} {P : Nat → Nat → Option Nat} (h : yB n sh P) {k : Nat} (hk : k < 7) : sh (9 + k) = (1, 301) := by
  rw [h.2.1 (9 + k) (by omega)]
  rcases (show k = 0 ∨ k = 1 ∨ k = 2 ∨ k = 3 ∨ k = 4 ∨ k = 5 ∨ k = 6 by omega) with rfl | rfl | rfl | rfl | rfl | rfl | rfl <;> rfl
/-- how many of the first s rules are known in q, by the order of telling -/
def sKn (rt : Nat → Int) (q : Int) : Nat → Nat
  | 0 => 0
  | s + 1 => if q < rt s then sKn rt q s else s + 1
theorem sKn_le (rt : Nat → Int) (q : Int) : ∀ s, sKn rt q s ≤ s
  | 0 => Nat.le_refl _
  | s + 1 => by
    have h := sKn_le rt q s
    unfold sKn
    split
    · omega
    · omega
/-- of the first i rules the one in force, whoever knows -/
def sG (rk rf rv : Nat → Int) (k : Nat) (w : Int) : Nat → Int × Int
  | 0 => (0, af k)
  | i + 1 => if rk i = k ∧ rf i ≤ w ∧ (sG rk rf rv k w i).1 ≤ rf i then (rf i, rv i) else sG rk rf rv k w i
def sGI (I : Nat → Nat → Int) (k : Nat) (w : Int) (i : Nat) : Int × Int := sG (I 4) (I 5) (I 6) k w i
theorem sGI_succ (I : Nat → Nat → Int) (k : Nat) (w : Int) (i : Nat) : sGI I k w (i + 1) = if I 4 i = k ∧ I 5 i ≤ w ∧ (sGI I k w i).1 ≤ I 5 i then (I 5 i, I 6 i) else sGI I k w i := rfl
theorem sGI_rng {I : Nat → Nat → Int} {k : Nat} (hk : k < 7) {w : Int} : ∀ {r : Nat}, yRl I 4 r → (0 ≤ (sGI I k w r).1 ∧ (sGI I k w r).1 ≤ 1000) ∧ (0 ≤ (sGI I k w r).2 ∧ (sGI I k w r).2 ≤ 400)
  | 0, _ => ⟨⟨by show (0 : Int) ≤ 0; decide, by show (0 : Int) ≤ 1000; decide⟩, af_rng hk⟩
  | r + 1, h => by
    have h1 := sGI_rng (I := I) hk (w := w) (r := r) (fun a ha => h a (by omega))
    have h2 : (0 ≤ I 4 r ∧ I 4 r ≤ 6) ∧ (0 ≤ I 5 r ∧ I 5 r ≤ 1000) ∧ (0 ≤ I 6 r ∧ I 6 r ≤ 400) ∧ (0 ≤ I 7 r ∧ I 7 r ≤ 300) := h r (by omega)
    rw [sGI_succ]
    split
    · exact ⟨h2.2.1, h2.2.2.1⟩
    · exact h1
/-- handing on along a row -/
def hO (f : Nat → Int) (v : Int) : Nat → Int
  | 0 => if f 0 = -1 then v else f 0
  | w + 1 => if f (w + 1) = -1 then hO f v w else f (w + 1)
/-- what stands ahead of place w -/
def hQ (f : Nat → Int) (v : Int) (w : Nat) : Int := match w with
  | 0 => v
  | w + 1 => hO f v w
theorem hO_eq (f : Nat → Int) (v : Int) (w : Nat) : hO f v w = if f w = -1 then hQ f v w else f w := by cases w <;> rfl
/-- the row that look() writes, before it is handed on -/
def fR (I : Nat → Nat → Int) (k : Nat) : Nat → Nat → Int
  | 0, _ => -1
  | i + 1, w => if I 4 i = k ∧ I 5 i = (w : Int) then I 6 i else fR I k i w
theorem fR_succ (I : Nat → Nat → Int) (k i w : Nat) : fR I k (i + 1) w = if I 4 i = k ∧ I 5 i = (w : Int) then I 6 i else fR I k i w := rfl
theorem hO_char {f : Nat → Int} {a v : Int} : ∀ {w g : Nat}, g ≤ w → (∀ y, g < y → y ≤ w → f y = -1) → ((f g ≠ -1 ∧ v = f g) ∨ (g = 0 ∧ f 0 = -1 ∧ v = a)) → hO f a w = v
  | 0, g, hg, _, h => by
    have e : g = 0 := by omega
    subst e
    unfold hO
    rcases h with ⟨h1, h2⟩ | ⟨_, h1, h2⟩
    · rw [if_neg h1, h2]
    · rw [if_pos h1, h2]
  | w + 1, g, hg, hy, h => by
    unfold hO
    by_cases e : g = w + 1
    · subst e
      rcases h with ⟨h1, h2⟩ | ⟨h0, _⟩
      · rw [if_neg h1, h2]
      · omega
    · rw [if_pos (hy (w + 1) (by omega) (by omega))]
      exact hO_char (by omega) (fun y h1 h2 => hy y h1 (by omega)) h
/-- what look() sees is what is in force -/
theorem fR_char {I : Nat → Nat → Int} {k : Nat} {w : Nat} : ∀ {i : Nat}, yRl I 4 i → ∃ g : Nat, (sGI I k (w : Int) i).1 = (g : Int) ∧ g ≤ w ∧ (∀ y, g < y → y ≤ w → fR I k i y = -1) ∧ ((fR I k i g ≠ -1 ∧ (sGI I k (w : Int) i).2 = fR I k i g) ∨ (g = 0 ∧ fR I k i 0 = -1 ∧ (sGI I k (w : Int) i).2 = af k))
  | 0, _ => ⟨0, rfl, Nat.zero_le _, fun _ _ _ => rfl, Or.inr ⟨rfl, rfl, rfl⟩⟩
  | i + 1, h => by
    obtain ⟨g, h1, h2, h3, h4⟩ := fR_char (I := I) (k := k) (w := w) (i := i) (fun a ha => h a (by omega))
    have hr : (0 ≤ I 4 i ∧ I 4 i ≤ 6) ∧ (0 ≤ I 5 i ∧ I 5 i ≤ 1000) ∧ (0 ≤ I 6 i ∧ I 6 i ≤ 400) ∧ (0 ≤ I 7 i ∧ I 7 i ≤ 300) := h i (by omega)
    by_cases hc : I 4 i = k ∧ I 5 i ≤ (w : Int) ∧ (sGI I k (w : Int) i).1 ≤ I 5 i
    · refine ⟨(I 5 i).toNat, ?_, by omega, fun y hy1 hy2 => ?_, Or.inl ⟨?_, ?_⟩⟩
      · rw [sGI_succ, if_pos hc]; show I 5 i = _; omega
      · rw [fR_succ, if_neg (by omega)]; exact h3 y (by omega) hy2
      · rw [fR_succ, if_pos ⟨hc.1, by omega⟩]; omega
      · rw [sGI_succ, if_pos hc, fR_succ, if_pos ⟨hc.1, by omega⟩]
    · refine ⟨g, by rw [sGI_succ, if_neg hc]; exact h1, h2, fun y hy1 hy2 => ?_, ?_⟩
      · rw [fR_succ, if_neg (fun z => hc ⟨z.1, by omega, by omega⟩)]; exact h3 y hy1 hy2
      · have e0 : ¬ (I 4 i = k ∧ I 5 i = (g : Int)) := fun z => hc ⟨z.1, by omega, by omega⟩
        rw [sGI_succ, if_neg hc]
        rcases h4 with ⟨h5, h6⟩ | ⟨h5, h6, h7⟩
        · exact Or.inl ⟨by rw [fR_succ, if_neg e0]; exact h5, by rw [fR_succ, if_neg e0]; exact h6⟩
        · subst h5
          exact Or.inr ⟨rfl, by rw [fR_succ, if_neg e0]; exact h6, h7⟩
theorem fR_look {I : Nat → Nat → Int} {k i : Nat} (h : yRl I 4 i) (w : Nat) : hO (fR I k i) (af k) w = (sGI I k (w : Int) i).2 := by
  obtain ⟨g, -, h2, h3, h4⟩ := fR_char (I := I) (k := k) (w := w) h
  exact hO_char h2 h3 h4
/-- what is known ahead is in force: the same as the reference's walk -/
def yTo (I : Nat → Nat → Int) (s : Nat) : Prop := ∀ i, i + 1 < s → I 7 i ≤ I 7 (i + 1)
theorem yTo_le {I : Nat → Nat → Int} {s : Nat} (h : yTo I s) : ∀ {j i : Nat}, i ≤ j → j < s → I 7 i ≤ I 7 j
  | 0, i, hi, _ => by rw [show i = 0 by omega]; exact Int.le_refl _
  | j + 1, i, hi, hj => by
    by_cases e : i = j + 1
    · rw [e]; exact Int.le_refl _
    · have h1 := yTo_le h (j := j) (i := i) (by omega) (by omega)
      have h2 := h j (by omega)
      omega
theorem sKn_spec {I : Nat → Nat → Int} {q : Int} : ∀ {s : Nat}, yTo I s → (∀ i, i < sKn (I 7) q s → I 7 i ≤ q) ∧ ∀ i, sKn (I 7) q s ≤ i → i < s → q < I 7 i
  | 0, _ => ⟨fun i hi => absurd hi (Nat.not_lt_zero i), fun i _ hi => absurd hi (Nat.not_lt_zero i)⟩
  | s + 1, h => by
    have h1 := sKn_spec (I := I) (q := q) (s := s) (fun i hi => h i (by omega))
    unfold sKn
    split
    · refine ⟨h1.1, fun i hi1 hi2 => ?_⟩
      by_cases e : i = s
      · subst e; assumption
      · exact h1.2 i hi1 (by omega)
    · refine ⟨fun i hi => ?_, fun i hi1 hi2 => by omega⟩
      have h2 := yTo_le h (j := s) (i := i) (by omega) (by omega)
      omega
theorem sF_tail {I : Nat → Nat → Int} {k : Nat} {w q : Int} {c : Nat} : ∀ {s : Nat}, c ≤ s → (∀ i, c ≤ i → i < s → q < I 7 i) → sFI I 4 k w q s = sFI I 4 k w q c
  | 0, hc, _ => by rw [show c = 0 by omega]
  | s + 1, hc, h => by
    by_cases e : c = s + 1
    · rw [e]
    · have h0 : q < I 7 s := h s (by omega) (by omega)
      have h1 := sF_tail (I := I) (k := k) (w := w) (q := q) (c := c) (s := s) (by omega) (fun i h2 h3 => h i h2 (by omega))
      rw [← h1]
      show (if I 4 s = k ∧ I 7 s ≤ q ∧ I 5 s ≤ w ∧ (sFI I 4 k w q s).1 ≤ I 5 s then (I 5 s, I 6 s) else sFI I 4 k w q s) = _
      rw [if_neg (by omega)]
theorem sF_sG {I : Nat → Nat → Int} {k : Nat} {w q : Int} : ∀ {s : Nat}, yRl I 4 s → (∀ i, i < s → I 7 i ≤ q) → (sFI I 4 k w q s).2 = (sGI I k w s).2 ∧ ((sFI I 4 k w q s).1 = (sGI I k w s).1 ∨ ((sFI I 4 k w q s).1 = -1 ∧ (sGI I k w s).1 = 0))
  | 0, _, _ => ⟨rfl, Or.inr ⟨rfl, rfl⟩⟩
  | s + 1, h, hq => by
    have h1 := sF_sG (I := I) (k := k) (w := w) (q := q) (s := s) (fun a ha => h a (by omega)) (fun i hi => hq i (by omega))
    have h0 := hq s (by omega)
    have hr : (0 ≤ I 4 s ∧ I 4 s ≤ 6) ∧ (0 ≤ I 5 s ∧ I 5 s ≤ 1000) ∧ (0 ≤ I 6 s ∧ I 6 s ≤ 400) ∧ (0 ≤ I 7 s ∧ I 7 s ≤ 300) := h s (by omega)
    rw [show sFI I 4 k w q (s + 1) = (if I 4 s = k ∧ I 7 s ≤ q ∧ I 5 s ≤ w ∧ (sFI I 4 k w q s).1 ≤ I 5 s then (I 5 s, I 6 s) else sFI I 4 k w q s) from rfl, sGI_succ]
    by_cases hc : I 4 s = k ∧ I 5 s ≤ w ∧ (sGI I k w s).1 ≤ I 5 s
    · rw [if_pos hc, if_pos (by omega)]
      exact ⟨rfl, Or.inl rfl⟩
    · rw [if_neg hc, if_neg (by omega)]
      exact h1
/-- by the class's rows 4 .. 7: what is in force, known in q -/
theorem sG_known {I : Nat → Nat → Int} {s k : Nat} {w q : Int} (hR : yRl I 4 s) (hT : yTo I s) : (sGI I k w (sKn (I 7) q s)).2 = (sFI I 4 k w q s).2 := by
  have h1 := sKn_spec (I := I) (q := q) hT
  have h2 := sKn_le (I 7) q s
  rw [sF_tail h2 h1.2]
  exact (sF_sG (fun a ha => hR a (by omega)) h1.1).1.symm
