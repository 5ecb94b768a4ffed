section ZMo
variable {l : Launch} {E : zEnv} {J : zM} {R : Room} {K : zK} {cells slots : Nat} {ws : List va_E} {pc : Nat} {L : List (Nat × Value)} {st : List Value}
/-- roads that come together with a number on the stack -/
theorem zcut (pc2 : Nat) (X : Int) (hk : Z l E J R K cells slots ws pc2 L (.int (iI X) :: st)) (hp : (∀ x, x = X → Z l E J R K cells slots ws pc2 L (.int (iI x) :: st)) → Z l E J R K cells slots ws pc L st) : Z l E J R K cells slots ws pc L st := hp (fun x e => by rw [e]; exact hk)
theorem zcut1 {v : Value} (pc2 : Nat) (X : Int) (hk : Z l E J R K cells slots ws pc2 L (.int (iI X) :: st)) (hp : (∀ x, x = X → Z l E J R K cells slots ws pc2 L (.int (iI x) :: st)) → Z l E J R K cells slots ws pc L (v :: st)) : Z l E J R K cells slots ws pc L (v :: st) := hp (fun x e => by rw [e]; exact hk)
end ZMo
/-- the end of a method whose answer is known, and of whose world something is -/
def yS (v : Option Value) (n : Nat) (sh : Nat → Nat × Nat) (P : Nat → Nat → Option Nat) (Q : (Nat → Nat → Int) → Prop) : Option Value → Nat → (Nat → Nat × Nat) → (Nat → Nat → Int) → (Nat → Nat → Option Nat) → Prop := fun v' n' sh' I' P' => v = v' ∧ n = n' ∧ sh = sh' ∧ P = P' ∧ Q I'
/-- a truth as the machine has it -/
def bI (p : Prop) [Decidable p] : Int := if p then 1 else 0
theorem bI_or (p : Prop) [Decidable p] : bI p = 0 ∨ bI p = 1 := by unfold bI; split <;> simp
theorem bI_t {p : Prop} [Decidable p] (h : p) : bI p = 1 := if_pos h
theorem bI_f {p : Prop} [Decidable p] (h : ¬ p) : bI p = 0 := if_neg h
theorem bI_rng (p : Prop) [Decidable p] : -2147483648 ≤ bI p ∧ bI p ≤ 2147483647 := by rcases bI_or p with h | h <;> omega
theorem bI_0 {p : Prop} [Decidable p] (h : bI p = 0) : ¬ p := fun q => by rw [bI_t q] at h; cases h
theorem bI_1 {p : Prop} [Decidable p] (h : ¬ bI p = 0) : p := Decidable.byContradiction fun q => h (bI_f q)
/-! the sum of the first n -/
def sm (f : Nat → Int) : Nat → Int
  | 0 => 0
  | n + 1 => sm f n + f n
theorem sm_cong {f g : Nat → Int} : ∀ {n : Nat}, (∀ k, k < n → f k = g k) → sm f n = sm g n
  | 0, _ => rfl
  | n + 1, h => by rw [sm, sm, sm_cong (fun k hk => h k (by omega)), h n (by omega)]
theorem sm_rng {f : Nat → Int} {a b : Int} : ∀ {n : Nat}, (∀ k, k < n → a ≤ f k ∧ f k ≤ b) → n * a ≤ sm f n ∧ sm f n ≤ n * b
  | 0, _ => by simp [sm]
  | n + 1, h => by
    have h1 := sm_rng (n := n) (fun k hk => h k (by omega))
    have h2 := h n (by omega)
    rw [sm, Int.natCast_add, Int.add_mul, Int.add_mul]
    omega
/-! RULES: what is IN FORCE, by a walk over those that were told -/
def af (k : Nat) : Int := zsf 2 k
/-- of the first r rules: the greatest WEEK from which one is, and its value -/
def sF (rk rf rv rt : Nat → Int) (k : Nat) (w q : Int) : Nat → Int × Int
  | 0 => (-1, af k)
  | r + 1 => if rk r = k ∧ rt r ≤ q ∧ rf r ≤ w ∧ (sF rk rf rv rt k w q r).1 ≤ rf r then (rf r, rv r) else sF rk rf rv rt k w q r
def yRl (I : Nat → Nat → Int) (o many : Nat) : Prop := ∀ r, r < many → (0 ≤ I o r ∧ I o r ≤ 6) ∧ (0 ≤ I (o + 1) r ∧ I (o + 1) r ≤ 1000) ∧ (0 ≤ I (o + 2) r ∧ I (o + 2) r ≤ 400) ∧ (0 ≤ I (o + 3) r ∧ I (o + 3) r ≤ 300)
/-- the same of the rows o, o + 1, o + 2, o + 3 -/
def sFI (I : Nat → Nat → Int) (o k : Nat) (w q : Int) (r : Nat) : Int × Int := sF (I o) (I (o + 1)) (I (o + 2)) (I (o + 3)) k w q r
theorem sFI_succ (I : Nat → Nat → Int) (o k : Nat) (w q : Int) (r : Nat) : sFI I o k w q (r + 1) = if I o r = k ∧ I (o + 3) r ≤ q ∧ I (o + 1) r ≤ w ∧ (sFI I o k w q r).1 ≤ I (o + 1) r then (I (o + 1) r, I (o + 2) r) else sFI I o k w q r := rfl
theorem af_rng {k : Nat} (hk : k < 7) : 0 ≤ af k ∧ af k ≤ 400 := by
  rcases (show k = 0 ∨ k = 1 ∨ k = 2 ∨ k = 3 ∨ k = 4 ∨ k = 5 ∨ k = 6 by omega) with rfl | rfl | rfl | rfl | rfl | rfl | rfl <;> exact ⟨by decide, by decide⟩
theorem sFI_rng {I : Nat → Nat → Int} {o k : Nat} (hk : k < 7) {w q : Int} : ∀ {r : Nat}, yRl I o r → (-1 ≤ (sFI I o k w q r).1 ∧ (sFI I o k w q r).1 ≤ 1000) ∧ (0 ≤ (sFI I o k w q r).2 ∧ (sFI I o k w q r).2 ≤ 400)
  | 0, _ => ⟨⟨by show (-1 : Int) ≤ -1; decide, by show (-1 : Int) ≤ 1000; decide⟩, af_rng hk⟩
  | r + 1, h => by
    have h1 := sFI_rng (I := I) (o := o) hk (w := w) (q := q) (r := r) (fun a ha => h a (by omega))
    have h2 := h r (by omega)
    rw [sFI_succ]
    split
    · exact ⟨by omega, h2.2.2.1⟩
    · exact h1
theorem sFI_cong {I I' : Nat → Nat → Int} {o : Nat} (h : ∀ a, o ≤ a → a < o + 4 → I' a = I a) (k : Nat) (w q : Int) (r : Nat) : sFI I' o k w q r = sFI I o k w q r := by
  unfold sFI
  rw [h o (by omega) (by omega), h (o + 1) (by omega) (by omega), h (o + 2) (by omega) (by omega), h (o + 3) (by omega) (by omega)]
abbrev sRule (kind fr v : Int) : Prop := (0 ≤ kind ∧ kind ≤ 6) ∧ (0 ≤ fr ∧ fr ≤ 1000) ∧ (zsf 0 kind.toNat ≤ v ∧ v ≤ zsf 1 kind.toNat)
