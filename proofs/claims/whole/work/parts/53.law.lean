/-! the law: class and reference call by call -/
abbrev jLw (nm : String) : zM := (⟨RL, nm, "([I)Z"⟩, cL_law, 4, some .boolean)
def aX (E : zEnv) (k : Nat) : Int := (zxs E k).toInt
theorem aX_rng (E : zEnv) (k : Nat) : -2147483648 ≤ aX E k ∧ aX E k ≤ 2147483647 := iI_rng _
theorem aX_of {E : zEnv} {i : Int} {k : Nat} (h : i.toNat = k) : (zsv E 3).2 i.toNat = iI (aX E k) := by subst h; exact (iI_of _).symm
/-- what the law comes to: of a start with this script, nothing above the base -/
def kLw (E : zEnv) (b : Nat) : zK := fun below args s t => args = #[Value.ref b] → s.heap.size = zb E → lw_Z below args s t
section LWr
variable {l : Launch} {E : zEnv} {J : zM} {R : Room} {K : zK} {cells slots : Nat} {ws : List va_E} {pc : Nat} {L : List (Nat × Value)} {st : List Value} {b : Nat}
theorem z_same {x y : Int32} {off : Int} (tgt : Nat) (hd : decode J.2.1 pc = .ok (.if_icmp .eq off, 3)) (ht : (pc : Int) + off = (tgt : Int)) (h : x = y) (k : Z l E J R K cells slots ws (tgt) (L) (st)) : Z l E J R K cells slots ws (pc) (L) (.int y :: .int x :: st) := by
  intro p e s m args below meth c C H locs ls hH hS hl
  exact lv_icmp_eq C.1 C.2.1 hd ht (fun _ => k p e s m args below meth c C H locs ls hH hS hl) (fun q => absurd h q)
theorem z_lawend {l : Launch} {nm : String} (hc : cells ≤ 600000) (hs : slots ≤ 7302250) : Z l E (jLw nm) room_1 (kLw E b) cells slots ws 876 L [.int (iI 1)] := by
  intro p e s m args below meth c C H locs ls hH hS hl
  by_cases hh : args = #[Value.ref b] ∧ s.heap.size = zb E
  · obtain ⟨rfl, hz⟩ := hh
    have h := va_forget (p := p) (l := l) (e := e) (R := room_1) (s := s) (m := m) (args := #[Value.ref b]) (below := below) (meth := meth) (c := c) (H := H) (locs := locs) (cells := cells) (slots := slots) (Q := lw_Z below #[Value.ref b] s) (g := F0 m 876 ls [.int 1]) (fun q hq => by have h1 : zb E ≤ q.base := hS.2.2 q hq; omega) (W.widen (k := 600000) (n := 7302250) hc hs (lw_ret C.1 C.2.1 C.2.2.2.2.2.2.2.2.1 C.2.2.2.2.2.2.2.1 dL_law_876))
    exact fun T hT X => by
      obtain ⟨t, a1, b1⟩ := h T hT X
      exact ⟨t, a1, fun _ _ => b1⟩
  · exact fun T hT X => ⟨_, Steps.refl _, fun h1 h2 => absurd ⟨h1, h2⟩ hh⟩
end LWr
/-- only the reference's rows -/
def pr (I : Nat → Nat → Int) : Nat → Nat → Int := fun a b => cond (Nat.ble 24 a && Nat.ble a 51) (I a b) 0
theorem pr_eq {I I1 : Nat → Nat → Int} (h : ∀ a, 24 ≤ a → a < 52 → I1 a = I a) : pr I1 = pr I := by
  funext a b
  unfold pr
  by_cases e : 24 ≤ a ∧ a ≤ 51
  · rw [h a (by omega) (by omega)]
  · have : (Nat.ble 24 a && Nat.ble a 51) = false := by
      rw [Bool.and_eq_false_iff]
      by_cases e1 : 24 ≤ a
      · exact Or.inr (by rw [← Bool.not_eq_true, Nat.ble_eq]; omega)
      · exact Or.inl (by rw [← Bool.not_eq_true, Nat.ble_eq]; omega)
    rw [this]; rfl
def rgS (A B : Nat → Nat → Int) : Prop := ∀ a b, 24 ≤ a → a ≤ 44 → B a b = A a b
theorem rgS.up {A B : Nat → Nat → Int} (h : rgS A B) (k j : Nat) (x : Int) : rgS (zup A k j x) (zup B k j x) := by
  intro a b h1 h2
  simp only [zup]
  split
  · rfl
  · exact h a b h1 h2
theorem rgS.bo {A B : Nat → Nat → Int} (h : rgS A B) (b : Nat) (t : Int) (w m : Nat) (d : Int) : rgS (mBo A b t w m d) (mBo B b t w m d) := by
  unfold mBo
  rw [h 38 (301 * m + w) (by omega) (by omega)]
  exact (((((h.up 39 b t).up 40 b w).up 41 b m).up 42 b d).up 24 4 ((b : Int) + 1)).up 38 (301 * m + w) (A 38 (301 * m + w) + d)
theorem rgS.b1 {A B : Nat → Nat → Int} (h : rgS A B) (t : Int) {D : Nat → Nat → Int} (w : Nat) : ∀ m, rgS (mB1 A t D w m) (mB1 B t D w m)
  | 0 => h
  | m + 1 => by
    have h1 := rgS.b1 h t (D := D) w m
    rw [mB1_succ, mB1_succ]
    by_cases e : D m w = 0
    · rw [if_pos e, if_pos e]; exact h1
    · rw [if_neg e, if_neg e, h1 24 4 (by omega) (by omega)]
      exact h1.bo _ t w m (D m w)
theorem rgS.b2 {A B : Nat → Nat → Int} (h : rgS A B) (t : Int) {D : Nat → Nat → Int} (mc : Nat) : ∀ w, rgS (mB2 A t D mc w) (mB2 B t D mc w)
  | 0 => h
  | w + 1 => rgS.b1 (rgS.b2 h t mc w) t w mc
theorem rgS.eq {A B : Nat → Nat → Int} (h : rgS A B) (rc : Nat) : mEq A B rc := fun a b h1 h2 _ _ => h a b h1 h2
theorem rgS.sc {A B I2 : Nat → Nat → Int} {rc : Nat} (h : rgS A B) (h2 : scF B I2 rc) : mEq A I2 rc := fun a b g1 g2 g3 g4 => by rw [h2 a b (by omega) g3 g4]; exact h a b g1 g2
/-- what holds at the head of the law's loop, c calls behind it -/
def LI (n : Nat) (sh : Nat → Nat × Nat) (I : Nat → Nat → Int) (P : Nat → Nat → Option Nat) (c cells slots : Nat) : Prop :=
  yB n sh P ∧ yM n sh P ∧ ∃ (t mc rc pc bc : Nat) (ma pa : Nat → Nat) (Ls : Nat → List Nat) (r rl : Nat), mOk I t mc rc pc bc c ∧ cpl n sh I P I t mc rc pc bc ma pa Ls r rl ∧ cells ≤ 60 + 5 * c ∧ slots ≤ 200000 + 1000 * c + 2 * rl + (if rl = 80000 then 80000 else 0)
theorem LI.of {n : Nat} {sh : Nat → Nat × Nat} {I1 I2 Mx : Nat → Nat → Int} {P : Nat → Nat → Option Nat} {t mc rc pc bc c cells slots rl : Nat} (hB : yB n sh P) (hM : yM n sh P) (hO : mOk Mx t mc rc pc bc c) (hC : ∃ ma pa Ls r, cpl n sh I1 P Mx t mc rc pc bc ma pa Ls r rl) (h2 : ∀ a b, (a < 24 ∨ 52 ≤ a) → I2 a b = I1 a b) (hE : mEq Mx I2 rc) (h3 : cells ≤ 60 + 5 * c) (h4 : slots ≤ 200000 + 1000 * c + 2 * rl + (if rl = 80000 then 80000 else 0)) : LI n sh I2 P c cells slots := by
  obtain ⟨ma, pa, Ls, r, hC⟩ := hC
  have hr : ∀ a, a < 24 → I2 a = I1 a := fun a ha => funext fun b => h2 a b (Or.inl ha)
  refine ⟨hB, hM, t, mc, rc, pc, bc, ma, pa, Ls, r, rl, hO.eq hE, (cpl.fr hC hO (fun a b _ x2 _ _ => h2 a b (by omega)) (hC.2.1.2.2.2.1.mv (fun x hx => hr x (by omega))) ?_ (hC.2.2.1.to (hr 17 (by omega))) (fun _ _ _ _ => rfl)).eq hE, h3, h4⟩
  rw [hr 3 (by omega)]; exact hC.2.1.2.2.2.2
theorem scF.lo {A B : Nat → Nat → Int} {rc : Nat} (h : scF A B rc) {a b : Nat} (ha : a < 24 ∨ 52 ≤ a) : B a b = A a b := h a b (by omega) (by omega) (by omega)
theorem yM.nx {n n' : Nat} {sh sh' : Nat → Nat × Nat} {P P' : Nat → Nat → Option Nat} (h : yM n sh P) (hB : yB n' sh' P') (h24 : P' 24 = P 24) : yM n' sh' P' := ⟨hB.1, hB.2.1, fun j => by rw [h24]; exact h.2.2 j⟩
theorem mOk.mv {I I1 : Nat → Nat → Int} {t mc rc pc bc c : Nat} (h : mOk I t mc rc pc bc c) (hr : ∀ a, 24 ≤ a → a < 52 → I1 a = I a) : mOk I1 t mc rc pc bc c := h.eq (fun a b h1 h2 _ _ => by rw [hr a h1 (by omega)])
theorem rgS.rf {I I1 : Nat → Nat → Int} (hr : ∀ a, 24 ≤ a → a < 52 → I1 a = I a) : rgS I I1 := fun a b h1 h2 => by rw [hr a h1 (by omega)]
theorem mJoin_rg {I I1 : Nat → Nat → Int} (h : rgS I I1) (mc : Nat) (y d t : Int) : rgS (mJoin I mc y d t) (mJoin I1 mc y d t) := (((h.up 25 mc y).up 26 mc d).up 27 mc t).up 24 1 ((mc : Int) + 1)
theorem mJoin_lo {I1 : Nat → Nat → Int} {mc : Nat} {y d t : Int} {a : Nat} (h : a < 24 ∨ 52 ≤ a) : mJoin I1 mc y d t a = I1 a := mJoin_ne (by omega)
theorem mRu_rg {I I1 : Nat → Nat → Int} (h : rgS I I1) (rc : Nat) (k f v t : Int) : rgS (mRu I rc k f v t) (mRu I1 rc k f v t) := ((((h.up 29 rc k).up 30 rc f).up 31 rc v).up 32 rc t).up 24 2 ((rc : Int) + 1)
theorem mPa_rg {I I1 : Nat → Nat → Int} (h : rgS I I1) (p : Nat) (m f a t : Int) : rgS (mPa I p m f a t) (mPa I1 p m f a t) := (((((h.up 33 p m).up 34 p f).up 35 p a).up 36 p t).up 37 p (-1)).up 24 3 ((p : Int) + 1)
theorem mPy_rg {I I1 : Nat → Nat → Int} (h : rgS I I1) (m t : Nat) (s : Int) : rgS (mPy I m t s) (mPy I1 m t s) := by
  unfold mPy
  rw [h 28 (301 * m + t) (by omega) (by omega)]
  exact h.up 28 _ _
theorem dfm_rg {I I1 : Nat → Nat → Int} (hr : ∀ a, 24 ≤ a → a < 52 → I1 a = I a) (t rc pc : Nat) : dfm I1 t rc pc = dfm I t rc pc := by
  funext m w
  unfold dfm bk
  rw [GRm_cong (I := I) (I' := I1) (fun a h1 h2 => hr a (by omega) (by omega)), hr 38 (by omega) (by omega)]
theorem mWe_rg {I I1 : Nat → Nat → Int} (hr : ∀ a, 24 ≤ a → a < 52 → I1 a = I a) (t mc rc pc : Nat) : rgS (mWe I t mc rc pc) (mWe I1 t mc rc pc) := by
  unfold mWe
  rw [dfm_rg hr]
  exact ((rgS.rf hr).b2 (t : Int) mc (t + 1)).up 24 0 ((t : Int) + 1)
theorem mWe_lo {I1 : Nat → Nat → Int} {t mc rc pc a : Nat} (h : a < 24 ∨ 52 ≤ a) : mWe I1 t mc rc pc a = I1 a := by
  unfold mWe
  rw [zup_ne (by omega), mB2_row (by omega) (by omega)]
theorem dn2_rg {I I1 : Nat → Nat → Int} (hr : ∀ a, 24 ≤ a → a < 52 → I1 a = I a) (t rc pc mc : Nat) : dn2 I1 t rc pc mc = dn2 I t rc pc mc := by
  unfold dn2 dn1
  rw [dfm_rg hr]
theorem wk_slots {rl b s c : Nat} (h1 : 64 ≤ rl) (h2 : rl ≤ 80000) (hb : b ≤ 20000) (hs : s ≤ 200000 + 1000 * c + 2 * rl + (if rl = 80000 then 80000 else 0)) : s + wkS rl b ≤ 200000 + 1000 * (c + 1) + 2 * wkL rl b + (if wkL rl b = 80000 then 80000 else 0) := by
  unfold wkS wkL
  by_cases e : rl < 4 * b
  · rw [if_pos e, if_pos e]
    rw [if_neg (by omega : ¬ rl = 80000)] at hs
    rcases Nat.le_total (4 * b) (min (2 * rl) 80000) with h | h
    · rw [Nat.max_eq_right h]
      rcases Nat.le_total (2 * rl) 80000 with g | g
      · rw [Nat.min_eq_left g] at h ⊢
        split <;> omega
      · rw [Nat.min_eq_right g, if_pos rfl]; omega
    · rw [Nat.max_eq_left h]
      rcases Nat.le_total (2 * rl) 80000 with g | g
      · rw [Nat.min_eq_left g] at h
        split <;> omega
      · rw [Nat.min_eq_right g] at h
        rw [if_pos (by omega)]; omega
  · rw [if_neg e, if_neg e]
    split at hs
    · rw [if_pos (by assumption)]; omega
    · rw [if_neg (by assumption)]; omega
theorem xAge_rg {I I1 : Nat → Nat → Int} (hr : ∀ a, 24 ≤ a → a < 52 → I1 a = I a) (t m : Nat) : xAge I1 t m = xAge I t m := by
  unfold xAge jn
  rw [hr 25 (by omega) (by omega), hr 27 (by omega) (by omega)]
theorem vF_rg {I I1 : Nat → Nat → Int} (hr : ∀ a, 24 ≤ a → a < 52 → I1 a = I a) (q : Int) (rc : Nat) : vF I1 q rc = vF I q rc := ((rgS.rf hr).eq rc).eV q
