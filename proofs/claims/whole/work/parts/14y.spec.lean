/-! SICK DAYS, ILLNESSES, GRANTS: over the days 0, 1, .. in order -/
/-- is a DAY SICK, by the first p papers: of whom, first, last, told, taken back -/
def sSk (po pf pl pt pb : Nat → Int) (m q : Int) (d : Int) : Nat → Bool
  | 0 => false
  | p + 1 => sSk po pf pl pt pb m q d p || decide (po p = m ∧ (pt p ≤ q ∧ (pb p = -1 ∨ q < pb p)) ∧ pf p ≤ d ∧ d ≤ pl p)
/-- has a MEMBER a known paper at all -/
def sAny (po pt pb : Nat → Int) (m q : Int) : Nat → Bool
  | 0 => false
  | p + 1 => sAny po pt pb m q p || decide (po p = m ∧ (pt p ≤ q ∧ (pb p = -1 ∨ q < pb p)))
theorem sSk_any {po pf pl pt pb : Nat → Int} {m q d : Int} : ∀ {p : Nat}, sSk po pf pl pt pb m q d p = true → sAny po pt pb m q p = true
  | 0, h => by cases h
  | p + 1, h => by
    rw [sSk, Bool.or_eq_true] at h
    rw [sAny, Bool.or_eq_true]
    rcases h with h | h
    · exact Or.inl (sSk_any h)
    · have h2 := of_decide_eq_true h
      exact Or.inr (decide_eq_true ⟨h2.1, h2.2.1⟩)
/-- last SICK DAY, the WEEK in which the ILLNESS began, which DAY of it: behind the days before d -/
def sSt (sk : Nat → Bool) (jo : Nat → Int) : Nat → Int × Nat × Int
  | 0 => (-1, 0, 0)
  | d + 1 => if sk d = true then (if (sSt sk jo d).1 = -1 ∨ jo (d / 7) < (d : Int) - (sSt sk jo d).1 - 1 then ((d : Int), d / 7, 1) else ((d : Int), (sSt sk jo d).2.1, (sSt sk jo d).2.2 + 1)) else sSt sk jo d
theorem sSt_succ (sk : Nat → Bool) (jo : Nat → Int) (d : Nat) : sSt sk jo (d + 1) = if sk d = true then (if (sSt sk jo d).1 = -1 ∨ jo (d / 7) < (d : Int) - (sSt sk jo d).1 - 1 then ((d : Int), d / 7, 1) else ((d : Int), (sSt sk jo d).2.1, (sSt sk jo d).2.2 + 1)) else sSt sk jo d := rfl
theorem sSt_rng (sk : Nat → Bool) (jo : Nat → Int) : ∀ d : Nat, (-1 ≤ (sSt sk jo d).1 ∧ (sSt sk jo d).1 < d) ∧ (sSt sk jo d).2.1 ≤ d / 7 ∧ (0 ≤ (sSt sk jo d).2.2 ∧ (sSt sk jo d).2.2 ≤ d)
  | 0 => ⟨⟨by show (-1 : Int) ≤ -1; decide, by show (-1 : Int) < 0; decide⟩, Nat.le_refl _, ⟨by show (0 : Int) ≤ 0; decide, by show (0 : Int) ≤ 0; decide⟩⟩
  | d + 1 => by
    have h := sSt_rng sk jo d
    rw [sSt_succ]
    split
    · split
      · exact ⟨⟨by show (-1 : Int) ≤ d; omega, by show (d : Int) < ((d + 1 : Nat) : Int); omega⟩, by show d / 7 ≤ (d + 1) / 7; omega, ⟨by show (0 : Int) ≤ 1; decide, by show (1 : Int) ≤ ((d + 1 : Nat) : Int); omega⟩⟩
      · exact ⟨⟨by show (-1 : Int) ≤ d; omega, by show (d : Int) < ((d + 1 : Nat) : Int); omega⟩, by show (sSt sk jo d).2.1 ≤ (d + 1) / 7; omega, ⟨by show (0 : Int) ≤ (sSt sk jo d).2.2 + 1; omega, by show (sSt sk jo d).2.2 + 1 ≤ ((d + 1 : Nat) : Int); omega⟩⟩
    · exact ⟨⟨h.1.1, by omega⟩, by omega, ⟨h.2.2.1, by omega⟩⟩
/-- what the n-th DAY of an ILLNESS is, and its coins, by the last waiting, whole and half DAY -/
def nat5 (a b c n : Int) : Int := if n ≤ a then 1 else if n ≤ b then 2 else if n ≤ c then 3 else 4
def coi (a b c r n : Int) : Int := if n ≤ a then 0 else if n ≤ b then r else if n ≤ c then r.tdiv 2 else r.tdiv 4
theorem tdiv_rng {r : Int} (h : 0 ≤ r ∧ r ≤ 400) {k : Int} (hk : 0 < k) : 0 ≤ r.tdiv k ∧ r.tdiv k ≤ 400 := by
  rw [Int.tdiv_eq_ediv_of_nonneg h.1]
  have h1 := Int.ediv_nonneg h.1 (by omega : 0 ≤ k)
  have h2 := Int.ediv_le_self k h.1
  omega
theorem coi_rng {a b c r n : Int} (h : 0 ≤ r ∧ r ≤ 400) : 0 ≤ coi a b c r n ∧ coi a b c r n ≤ 400 := by
  unfold coi
  split
  · omega
  · split
    · exact h
    · split
      · exact tdiv_rng h (by decide)
      · exact tdiv_rng h (by decide)
/-- V k w: the value of kind k in the WEEK w -/
def sWh (sk : Nat → Bool) (V : Nat → Nat → Int) (out : Nat → Bool) (d : Nat) : Int := if sk d = true then (if out (d / 7) = true then 5 else nat5 (V 1 (sSt sk (V 5) (d + 1)).2.1) (V 1 (sSt sk (V 5) (d + 1)).2.1 + V 3 (sSt sk (V 5) (d + 1)).2.1) (V 1 (sSt sk (V 5) (d + 1)).2.1 + V 3 (sSt sk (V 5) (d + 1)).2.1 + V 4 (sSt sk (V 5) (d + 1)).2.1) (sSt sk (V 5) (d + 1)).2.2) else 0
def sCo (sk : Nat → Bool) (V : Nat → Nat → Int) (out : Nat → Bool) (d : Nat) : Int := if sk d = true then (if out (d / 7) = true then 0 else coi (V 1 (sSt sk (V 5) (d + 1)).2.1) (V 1 (sSt sk (V 5) (d + 1)).2.1 + V 3 (sSt sk (V 5) (d + 1)).2.1) (V 1 (sSt sk (V 5) (d + 1)).2.1 + V 3 (sSt sk (V 5) (d + 1)).2.1 + V 4 (sSt sk (V 5) (d + 1)).2.1) (V 2 (d / 7)) (sSt sk (V 5) (d + 1)).2.2) else 0
/-- the GRANT of a WEEK by the days before D -/
def sGr (sk : Nat → Bool) (V : Nat → Nat → Int) (out : Nat → Bool) (w D : Nat) : Int := sm (fun d => if d / 7 = w then sCo sk V out d else 0) D
