/-! days gone over one by one, as the class does: S is the set of those that were -/
theorem sSt_ext {S S' : Nat → Bool} {jo : Nat → Int} : ∀ {D : Nat}, (∀ d, d < D → S d = S' d) → sSt S jo D = sSt S' jo D
  | 0, _ => rfl
  | D + 1, h => by rw [sSt_succ, sSt_succ, sSt_ext (fun d hd => h d (by omega)), h D (by omega)]
theorem sSt_const {S : Nat → Bool} {jo : Nat → Int} {x : Nat} : ∀ {y : Nat}, x ≤ y → (∀ d, x ≤ d → d < y → S d = false) → sSt S jo y = sSt S jo x
  | 0, h, _ => by rw [show x = 0 by omega]
  | y + 1, h, hs => by
    by_cases e : x = y + 1
    · rw [e]
    · rw [sSt_succ, if_neg (by rw [hs y (by omega) (by omega)]; decide)]
      exact sSt_const (by omega) (fun d h1 h2 => hs d h1 (by omega))
theorem sCo_ext {S S' : Nat → Bool} {V : Nat → Nat → Int} {out : Nat → Bool} {d : Nat} (h : ∀ x, x ≤ d → S x = S' x) : sCo S V out d = sCo S' V out d := by
  unfold sCo
  rw [h d (Nat.le_refl _), sSt_ext (S := S) (S' := S') (D := d + 1) (fun x hx => h x (by omega))]
theorem sWh_ext {S S' : Nat → Bool} {V : Nat → Nat → Int} {out : Nat → Bool} {d : Nat} (h : ∀ x, x ≤ d → S x = S' x) : sWh S V out d = sWh S' V out d := by
  unfold sWh
  rw [h d (Nat.le_refl _), sSt_ext (S := S) (S' := S') (D := d + 1) (fun x hx => h x (by omega))]
theorem sGr_ext {S S' : Nat → Bool} {V : Nat → Nat → Int} {out : Nat → Bool} {w D : Nat} (h : ∀ x, x < D → S x = S' x) : sGr S V out w D = sGr S' V out w D :=
  sm_cong (fun k hk => by
    by_cases e : k / 7 = w
    · rw [if_pos e, if_pos e]; exact sCo_ext (fun x hx => h x (by omega))
    · rw [if_neg e, if_neg e])
/-- one day more -/
def addD (S : Nat → Bool) (d : Nat) : Nat → Bool := fun x => S x || decide (x = d)
theorem addD_ne {S : Nat → Bool} {d x : Nat} (h : x ≠ d) : addD S d x = S x := by simp [addD, h]
theorem addD_eq {S : Nat → Bool} {d : Nat} : addD S d d = true := by simp [addD]
theorem sm_zero_tail {f : Nat → Int} {a : Nat} : ∀ {b : Nat}, a ≤ b → (∀ k, a ≤ k → k < b → f k = 0) → sm f b = sm f a
  | 0, h, _ => by rw [show a = 0 by omega]
  | b + 1, h, hz => by
    by_cases e : a = b + 1
    · rw [e]
    · rw [sm, hz b (by omega) (by omega), Int.add_zero]
      exact sm_zero_tail (by omega) (fun k h1 h2 => hz k h1 (by omega))
theorem addD_gr {S : Nat → Bool} {V : Nat → Nat → Int} {out : Nat → Bool} {d M w : Nat} (hd : d ≤ M) (hS : ∀ x, d ≤ x → S x = false) : sGr (addD S d) V out w (M + 1) = sGr S V out w (M + 1) + (if d / 7 = w then sCo (addD S d) V out d else 0) := by
  have h1 : sGr (addD S d) V out w (M + 1) = sGr (addD S d) V out w (d + 1) := sm_zero_tail (by omega) (fun k h1 h2 => by
    show (if k / 7 = w then sCo (addD S d) V out k else 0) = 0
    rw [sCo_0 (by rw [addD_ne (by omega), hS k (by omega)]; decide)]
    split <;> rfl)
  have h2 : sGr S V out w (M + 1) = sGr S V out w d := sm_zero_tail (by omega) (fun k h1 h2 => by
    show (if k / 7 = w then sCo S V out k else 0) = 0
    rw [sCo_0 (by rw [hS k (by omega)]; decide)]
    split <;> rfl)
  rw [h1, h2, sGr_succ, sGr_ext (S := addD S d) (S' := S) (fun x hx => addD_ne (by omega))]
theorem addD_st {S : Nat → Bool} {jo : Nat → Int} {d M : Nat} (hd : d ≤ M) (hS : ∀ x, d ≤ x → S x = false) : sSt (addD S d) jo (M + 1) = sSt (addD S d) jo (d + 1) ∧ sSt S jo (M + 1) = sSt S jo d ∧ sSt (addD S d) jo d = sSt S jo d :=
  ⟨sSt_const (by omega) (fun x h1 h2 => by rw [addD_ne (by omega)]; exact hS x (by omega)), sSt_const (by omega) (fun x h1 h2 => hS x h1), sSt_ext (fun x hx => addD_ne (by omega))⟩
theorem coiN_nat5 (a b c r n : Int) : coiN (nat5 a b c n) r = coi a b c r n := by
  unfold nat5 coi
  split
  · rfl
  · split
    · rfl
    · split <;> rfl
/-- the class's table, and who is OUT, by its rows -/
def bV (I : Nat → Nat → Int) (k w : Nat) : Int := I (9 + k) w
def bOu (I : Nat → Nat → Int) (a q j : Nat) (w : Nat) : Bool := decide (I 15 w * I 9 w < bAr I a w q j)
/-- Course has gone over the days of S, all up to M: I0 the world at its start, g the row of grants -/
def cRg (I0 I : Nat → Nat → Int) (a q j g M : Nat) (S : Nat → Bool) : Prop :=
  (∀ x b, x ≠ 17 → x ≠ g → I x b = I0 x b) ∧ I 17 3 = (q : Int) ∧ I 17 4 = (sSt S (bV I0 5) (M + 1)).1 ∧ I 17 6 = (sSt S (bV I0 5) (M + 1)).2.2 ∧
  ((0 ≤ I 17 7 ∧ I 17 7 ≤ 400) ∧ (0 ≤ I 17 8 ∧ I 17 8 ≤ 800) ∧ (0 ≤ I 17 9 ∧ I 17 9 ≤ 1200) ∧ (0 ≤ I 17 5 ∧ I 17 5 ≤ 5)) ∧
  (¬ (sSt S (bV I0 5) (M + 1)).1 = -1 → I 17 7 = bV I0 1 (sSt S (bV I0 5) (M + 1)).2.1 ∧ I 17 8 = bV I0 1 (sSt S (bV I0 5) (M + 1)).2.1 + bV I0 3 (sSt S (bV I0 5) (M + 1)).2.1 ∧ I 17 9 = bV I0 1 (sSt S (bV I0 5) (M + 1)).2.1 + bV I0 3 (sSt S (bV I0 5) (M + 1)).2.1 + bV I0 4 (sSt S (bV I0 5) (M + 1)).2.1 ∧ I 17 5 = sWh S (bV I0) (bOu I0 a q j) (sSt S (bV I0 5) (M + 1)).1.toNat) ∧
  (I 17 10 = -1 ∨ ∃ w0 : Nat, w0 ≤ 300 ∧ I 17 10 = (w0 : Int) ∧ I 17 11 = bI (bOu I0 a q j w0 = true)) ∧ (I 17 11 = 0 ∨ I 17 11 = 1) ∧
  ∀ w, w ≤ 300 → w ≤ M / 7 → I g w = sGr S (bV I0) (bOu I0 a q j) w (M + 1)
theorem bI_bOu (I : Nat → Nat → Int) (a q j w : Nat) : bI (bOu I a q j w = true) = bI (I 15 w * I 9 w < bAr I a w q j) := bI_cong (by unfold bOu; rw [decide_eq_true_eq])
/-- what gT does to the slots -/
theorem gT_slots (I : Nat → Nat → Int) (d w : Nat) (ou : Int) : ∃ J, J = (if I 17 4 = -1 ∨ I 14 w < (d : Int) - I 17 4 - 1 then bil I w else I) ∧ gT I d w ou 17 3 = I 17 3 ∧ gT I d w ou 17 4 = (d : Int) ∧ gT I d w ou 17 6 = J 17 6 + 1 ∧ gT I d w ou 17 7 = J 17 7 ∧ gT I d w ou 17 8 = J 17 8 ∧ gT I d w ou 17 9 = J 17 9 ∧ gT I d w ou 17 10 = (w : Int) ∧ gT I d w ou 17 11 = (if (w : Int) = I 17 10 then I 17 11 else ou) ∧ gT I d w ou 17 5 = (if gT I d w ou 17 11 = 0 then nat5 (J 17 7) (J 17 8) (J 17 9) (J 17 6 + 1) else 5) := by
  refine ⟨_, rfl, ?_⟩
  have e3 : (if I 17 4 = -1 ∨ I 14 w < (d : Int) - I 17 4 - 1 then bil I w else I) 17 3 = I 17 3 := by split <;> simp [bil, zup]
  have e10 : (if I 17 4 = -1 ∨ I 14 w < (d : Int) - I 17 4 - 1 then bil I w else I) 17 10 = I 17 10 := by split <;> simp [bil, zup]
  have e11 : (if I 17 4 = -1 ∨ I 14 w < (d : Int) - I 17 4 - 1 then bil I w else I) 17 11 = I 17 11 := by split <;> simp [bil, zup]
  generalize hJ : (if I 17 4 = -1 ∨ I 14 w < (d : Int) - I 17 4 - 1 then bil I w else I) = J at *
  unfold gT
  rw [hJ]
  unfold gT2
  have f : ∀ c, c ≠ 5 → zup (gT1 J d w ou) 17 5 (if gT1 J d w ou 17 11 = 0 then nat5 (gT1 J d w ou 17 7) (gT1 J d w ou 17 8) (gT1 J d w ou 17 9) (gT1 J d w ou 17 6) else 5) 17 c = gT1 J d w ou 17 c := fun c hc => by simp [zup, hc]
  rw [f 3 (by decide), f 4 (by decide), f 6 (by decide), f 7 (by decide), f 8 (by decide), f 9 (by decide), f 10 (by decide), f 11 (by decide)]
  have g6 : gT1 J d w ou 17 6 = J 17 6 + 1 := by unfold gT1; split <;> simp [zup]
  have g7 : gT1 J d w ou 17 7 = J 17 7 := by unfold gT1; split <;> simp [zup]
  have g8 : gT1 J d w ou 17 8 = J 17 8 := by unfold gT1; split <;> simp [zup]
  have g9 : gT1 J d w ou 17 9 = J 17 9 := by unfold gT1; split <;> simp [zup]
  refine ⟨?_, ?_, g6, g7, g8, g9, ?_, ?_, ?_⟩
  · rw [← e3]; unfold gT1; split <;> simp [zup]
  · unfold gT1; split <;> simp [zup]
  · unfold gT1
    split
    · rename_i h; simp [zup]; exact h.symm
    · simp [zup]
  · rw [← e10, ← e11]
    unfold gT1
    split
    · simp [zup]
    · simp [zup]
  · rw [zup_eq]; simp only [zu, if_true]; rw [g6, g7, g8, g9]
