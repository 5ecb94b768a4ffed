/-- go() writes rows 46 .. 50 alone -/
def gF (I I' : Nat → Nat → Int) : Prop := ∀ a b, (a < 46 ∨ 50 < a) → I' a b = I a b
theorem gF.row {I I' : Nat → Nat → Int} (h : gF I I') {a : Nat} (ha : a < 46 ∨ 50 < a) : I' a = I a := funext fun b => h a b ha
theorem gF.up {I I' : Nat → Nat → Int} (h : gF I I') {k j : Nat} {x : Int} (hk : 46 ≤ k ∧ k ≤ 50) : gF I (zup I' k j x) := fun a b ha => by rw [zup_ne (by omega)]; exact h a b ha
theorem gF.gd {I I' I'' : Nat → Nat → Int} (h : gF I I') {d : Nat} {x y : Int} (hg : mGd I' I'' d x y) : gF I I'' := fun a b ha => by rw [hg.1 a b (by omega)]; exact h a b ha
theorem sOw_cong {I I' : Nat → Nat → Int} (h1 : I' 45 = I 45) (h2 : I' 28 = I 28) (m w q j : Nat) : sOw I' m w q j = sOw I m w q j := by unfold sOw; rw [h1, h2]
abbrev SKm (I : Nat → Nat → Int) (m q p d : Nat) : Bool := sSk (I 33) (I 34) (I 35) (I 36) (I 37) (m : Int) (q : Int) (d : Int) p
abbrev ANm (I : Nat → Nat → Int) (m q p : Nat) : Bool := sAny (I 33) (I 36) (I 37) (m : Int) (q : Int) p
abbrev OUm (I : Nat → Nat → Int) (m q j w : Nat) : Bool := decide (mV I 6 w * mV I 0 w < sOw I m w q j)
abbrev ACm (I : Nat → Nat → Int) (m q p : Nat) : Prop := I 33 p = (m : Int) ∧ (I 36 p ≤ (q : Int) ∧ (I 37 p = -1 ∨ (q : Int) < I 37 p))
def mPap (I : Nat → Nat → Int) (pc t : Nat) : Prop := ∀ p, p < pc → (0 ≤ I 33 p ∧ I 33 p ≤ 39) ∧ (0 ≤ I 34 p ∧ I 34 p ≤ I 35 p ∧ I 35 p ≤ 7 * (t : Int) + 6) ∧ (0 ≤ I 36 p ∧ I 36 p ≤ 300) ∧ (-1 ≤ I 37 p ∧ I 37 p ≤ 300)
/-- what go() makes -/
def mGo (I I' : Nat → Nat → Int) (m q j pc t : Nat) : Prop := gF I I' ∧ (∀ d, d < 7 * t + 7 → I' 46 d = sWh (fun d => SKm I m q pc d) (mV I) (fun w => OUm I m q j w) d ∧ I' 47 d = sCo (fun d => SKm I m q pc d) (mV I) (fun w => OUm I m q j w) d) ∧ ∀ w, w ≤ t → I' 50 w = sGr (fun d => SKm I m q pc d) (mV I) (fun w => OUm I m q j w) w (7 * t + 7)
def gA (I I' : Nat → Nat → Int) (d : Nat) : Prop := gF I I' ∧ ∀ d', d' < d → I' 46 d' = 0 ∧ I' 47 d' = 0 ∧ I' 48 d' = 0
def gB (I I' : Nat → Nat → Int) (m q t p : Nat) : Prop := gF I I' ∧ ∀ d', d' < 7 * t + 7 → I' 46 d' = 0 ∧ I' 47 d' = 0 ∧ I' 48 d' = bI (SKm I m q p d' = true)
def gC (I I' : Nat → Nat → Int) (m q t p d : Nat) : Prop := gF I I' ∧ ∀ d', d' < 7 * t + 7 → I' 46 d' = 0 ∧ I' 47 d' = 0 ∧ I' 48 d' = bI (SKm I m q p d' = true ∨ (ACm I m q p ∧ I 34 p ≤ (d' : Int) ∧ d' < d))
def gD (I I' : Nat → Nat → Int) (m q t j pc w : Nat) : Prop := gB I I' m q t pc ∧ ∀ w', w' < w → I' 50 w' = 0 ∧ I' 49 w' = bI (ANm I m q pc = true ∧ OUm I m q j w' = true)
def gE (I I' : Nat → Nat → Int) (m q t j pc d : Nat) : Prop := gF I I' ∧ (∀ d', d' < 7 * t + 7 → I' 48 d' = bI (SKm I m q pc d' = true) ∧ (d' < d → I' 46 d' = sWh (fun d => SKm I m q pc d) (mV I) (fun w => OUm I m q j w) d' ∧ I' 47 d' = sCo (fun d => SKm I m q pc d) (mV I) (fun w => OUm I m q j w) d') ∧ (d ≤ d' → I' 46 d' = 0 ∧ I' 47 d' = 0)) ∧ ∀ w, w ≤ t → I' 49 w = bI (ANm I m q pc = true ∧ OUm I m q j w = true) ∧ I' 50 w = sGr (fun d => SKm I m q pc d) (mV I) (fun w => OUm I m q j w) w d
theorem bI_cong {p q : Prop} [Decidable p] [Decidable q] (h : p ↔ q) : bI p = bI q := by
  by_cases hp : p
  · rw [bI_t hp, bI_t (h.mp hp)]
  · rw [bI_f hp, bI_f (fun z => hp (h.mpr z))]
theorem SKm_succ (I : Nat → Nat → Int) (m q p d : Nat) : SKm I m q (p + 1) d = true ↔ SKm I m q p d = true ∨ (ACm I m q p ∧ I 34 p ≤ (d : Int) ∧ (d : Int) ≤ I 35 p) := by
  show (_ || decide _) = true ↔ _
  rw [Bool.or_eq_true, decide_eq_true_eq]
  constructor
  · rintro (h | ⟨h1, h2, h3⟩)
    · exact Or.inl h
    · exact Or.inr ⟨⟨h1, h2⟩, h3⟩
  · rintro (h | ⟨⟨h1, h2⟩, h3⟩)
    · exact Or.inl h
    · exact Or.inr ⟨h1, h2, h3⟩
theorem ANm_succ (I : Nat → Nat → Int) (m q p : Nat) : ANm I m q (p + 1) = true ↔ ANm I m q p = true ∨ ACm I m q p := by
  show (_ || decide _) = true ↔ _
  rw [Bool.or_eq_true, decide_eq_true_eq]
theorem sCo_0 {sk : Nat → Bool} {V : Nat → Nat → Int} {out : Nat → Bool} {d : Nat} (h : ¬ sk d = true) : sCo sk V out d = 0 := by unfold sCo; rw [if_neg h]
theorem sWh_0 {sk : Nat → Bool} {V : Nat → Nat → Int} {out : Nat → Bool} {d : Nat} (h : ¬ sk d = true) : sWh sk V out d = 0 := by unfold sWh; rw [if_neg h]
theorem sm_0 {f : Nat → Int} : ∀ {n : Nat}, (∀ k, k < n → f k = 0) → sm f n = 0
  | 0, _ => rfl
  | n + 1, h => by rw [sm, sm_0 (fun k hk => h k (by omega)), h n (by omega)]; rfl
theorem sGr_0 {sk : Nat → Bool} {V : Nat → Nat → Int} {out : Nat → Bool} {w D : Nat} (h : ∀ d, ¬ sk d = true) : sGr sk V out w D = 0 := sm_0 (fun k _ => by rw [sCo_0 (h k)]; split <;> rfl)
theorem sGr_succ (sk : Nat → Bool) (V : Nat → Nat → Int) (out : Nat → Bool) (w d : Nat) : sGr sk V out w (d + 1) = sGr sk V out w d + (if d / 7 = w then sCo sk V out d else 0) := rfl
section MG2
variable {l : Launch} {E : zEnv} {n : Nat} {sh : Nat → Nat × Nat} {I : Nat → Nat → Int} {P : Nat → Nat → Option Nat}
set_option maxHeartbeats 4000000 in
set_option maxRecDepth 100000 in
theorem l5_X7_go (hM : yM n sh P) {m t q j pc : Nat} (hm : m < 40) (ht : I 24 0 = (t : Int)) (ht3 : t ≤ 300) (hq : I 24 26 = (q : Int)) (hq3 : q ≤ 300) (hpc : I 24 3 = (pc : Int)) (hpc2 : pc ≤ 200) (hj : I 27 m = (j : Int)) (hj3 : j ≤ 300) (hpap : mPap I pc t) (hV : ∀ k w, k < 7 → w ≤ t → 0 ≤ mV I k w ∧ mV I k w ≤ 400) (hO : ∀ w, w ≤ t → -2147483648 ≤ sOw I m w q j ∧ sOw I m w q j ≤ 2147483647) {d : Nat} (hlt : d < 7 * t + 7) (hany : ANm I m q pc = true) (hs : (fun d => SKm I m q pc d) d = true) (ih : (∀ s', 7 * t + 7 - s' < 7 * t + 7 - d → ∀ I', gE I I' m q t j pc s' → s' ≤ 7 * t + 7 → Z l E jX7_go (rm 3 68) (yE E 0 0 (yS none n sh P (fun I' => mGo I I' m q j pc t))) 0 0 (zw E n sh I' P) 228 [(0, .ref (zb E + 24)), (1, .int (iI m)), (2, .int (iI (7 * (t : Int) + 7))), (3, .int (iI (bI (ANm I m q pc = true)))), (4, .int (iI (sSt (fun d => SKm I m q pc d) (mV I 5) s').1)), (5, .int (iI (sSt (fun d => SKm I m q pc d) (mV I 5) s').2.1)), (6, .int (iI (sSt (fun d => SKm I m q pc d) (mV I 5) s').2.2)), (7, .int (iI s'))] [])) {I' : Nat → Nat → Int} (hE : gE I I' m q t j pc d) {b : Nat} {c : Int} (hb : b ≤ d / 7) (hc : 0 ≤ c ∧ c ≤ d) (hrel : sSt (fun d => SKm I m q pc d) (mV I 5) (d + 1) = ((d : Int), b, c + 1)) (e45 : I' 45 = I 45) : Z l E jX7_go (rm 3 68) (yE E 0 0 (yS none n sh P (fun I' => mGo I I' m q j pc t))) 0 0 (zw E n sh I' P) 288 [(0, .ref (zb E + 24)), (1, .int (iI m)), (2, .int (iI (7 * (t : Int) + 7))), (3, .int (iI (bI (ANm I m q pc = true)))), (4, .int (iI (sSt (fun d => SKm I m q pc d) (mV I 5) d).1)), (5, .int (iI (b : Nat))), (6, .int (iI c)), (7, .int (iI d)), (8, .int (iI ((d / 7 : Nat) : Int)))] [] := by
  refine z_iinc dX7_go_288 rfl (by decide) ?_
  refine z_iload dX7_go_291 rfl ?_
  refine z_istore dX7_go_293 (by decide) ?_
  refine z_aload_n dX7_go_295 rfl ?_
  refine z_iload dX7_go_296 rfl ?_
  refine z_iload dX7_go_298 rfl ?_
  refine z_iload dX7_go_300 rfl ?_
  refine z_iload dX7_go_302 rfl ?_
  refine y_callV dX7_go_304 kX7_128 (c_X7_grantDay (I := I') (c := c + 1) hM (by omega) (by omega) (by omega) (by omega) (by rw [e45]; exact hV 1 b (by omega) (by omega)) (by rw [e45]; exact hV 3 b (by omega) (by omega)) (by rw [e45]; exact hV 4 b (by omega) (by omega)) (by rw [e45]; exact hV 2 (d / 7) (by omega) (by omega)) (by rw [(hE.2.2 (d / 7) (by omega)).1]; exact bI_or _)) (hM.lt (by decide)) (hM.2.1 24 (by decide)) rfl rfl rfl (Nat.le_of_ble_eq_true rfl) ⟨⟨by decide, by decide⟩, by decide, by decide⟩ (fun v304 n304 sh304 I304 P304 hp304 => ?_)
  obtain ⟨rfl, rfl, rfl, rfl, hg⟩ := hp304
  rw [e45, (hE.2.2 (d / 7) (by omega)).1] at hg
  have e49 : (bI (ANm I m q pc = true ∧ OUm I m q j (d / 7) = true) = 1) ↔ OUm I m q j (d / 7) = true := by
    constructor
    · intro h
      exact (bI_1 (p := ANm I m q pc = true ∧ OUm I m q j (d / 7) = true) (by omega)).2
    · intro h
      exact bI_t ⟨hany, h⟩
  have hx : I304 46 d = sWh (fun d => SKm I m q pc d) (mV I) (fun w => OUm I m q j w) d := by
    rw [hg.2.1]; unfold sWh; rw [if_pos hs, hrel]
    by_cases ho : OUm I m q j (d / 7) = true
    · rw [if_pos (e49.mpr ho), if_pos ho]
    · rw [if_neg (fun h => ho (e49.mp h)), if_neg ho]; rfl
  have hy : I304 47 d = sCo (fun d => SKm I m q pc d) (mV I) (fun w => OUm I m q j w) d := by
    rw [hg.2.2]; unfold sCo; rw [if_pos hs, hrel]
    by_cases ho : OUm I m q j (d / 7) = true
    · rw [if_pos (e49.mpr ho), if_pos ho]
    · rw [if_neg (fun h => ho (e49.mp h)), if_neg ho]; rfl
  have e50 : I304 50 (d / 7) = sGr (fun d => SKm I m q pc d) (mV I) (fun w => OUm I m q j w) (d / 7) d := by rw [hg.1 50 (d / 7) (by omega)]; exact (hE.2.2 (d / 7) (by omega)).2
  refine z_aload_n dX7_go_307 rfl ?_
  refine y_getR dX7_go_308 fX7_86 (hM.lt (by decide)) (hM.2.1 24 (by decide)) rfl (hM.2.2 31) ?_
  refine z_iload dX7_go_311 rfl ?_
  refine z_dup2 dX7_go_313 rfl rfl ?_
  refine y_ialoadJ (d / 7) dX7_go_314 (hM.lt (by decide)) (hM.2.1 50 (by decide)) (by omega) (by decide) ?_
  rw [e50]
  refine z_aload_n dX7_go_315 rfl ?_
  refine y_getR dX7_go_316 fX7_76 (hM.lt (by decide)) (hM.2.1 24 (by decide)) rfl (hM.2.2 28) ?_
  refine z_iload dX7_go_319 rfl ?_
  refine y_ialoadJ (d) dX7_go_321 (hM.lt (by decide)) (hM.2.1 47 (by decide)) (by omega) (by decide) ?_
  rw [hy]
  refine z_iadd dX7_go_322 ?_
  refine y_iastoreJ (d / 7) dX7_go_323 (hM.lt (by decide)) (hM.2.1 50 (by decide)) (by omega) (by decide) ?_
  refine z_iinc dX7_go_324 rfl (by decide) ?_
  refine z_goto 228 dX7_go_327 (by decide) ?_
  refine z_keys [0, 1, 2, 3, 4, 5, 6, 7] ?_
  have h5 := ih (d + 1) (by omega) (zup I304 50 (d / 7) (sGr (fun d => SKm I m q pc d) (mV I) (fun w => OUm I m q j w) (d / 7) d + sCo (fun d => SKm I m q pc d) (mV I) (fun w => OUm I m q j w) d)) ⟨(hE.1.gd hg).up (by omega), fun d' hd' => ⟨?_, fun h => ?_, fun h => ?_⟩, fun w' hw' => ⟨?_, ?_⟩⟩ (by omega)
  · rw [hrel] at h5
    exact h5
  · rw [zup_ne (by omega), hg.1 48 d' (by omega)]; exact (hE.2.1 d' hd').1
  · rw [zup_ne (by omega), zup_ne (by omega)]
    by_cases e : d' = d
    · subst e; exact ⟨hx, hy⟩
    · rw [hg.1 46 d' (by omega), hg.1 47 d' (by omega)]; exact (hE.2.1 d' hd').2.1 (by omega)
  · rw [zup_ne (by omega), zup_ne (by omega), hg.1 46 d' (by omega), hg.1 47 d' (by omega)]; exact (hE.2.1 d' hd').2.2 (by omega)
  · rw [zup_ne (by omega), hg.1 49 w' (by omega)]; exact (hE.2.2 w' hw').1
  · rw [sGr_succ]
    by_cases e : d / 7 = w'
    · subst e; rw [if_pos rfl]; simp [zup]
    · rw [if_neg e, zup_eq]; simp only [zu, if_neg (Ne.symm e)]; rw [hg.1 50 w' (by omega), (hE.2.2 w' hw').2]; omega
set_option maxHeartbeats 4000000 in
set_option maxRecDepth 100000 in
theorem l4_X7_go (hM : yM n sh P) {m t q j pc : Nat} (hm : m < 40) (ht : I 24 0 = (t : Int)) (ht3 : t ≤ 300) (hq : I 24 26 = (q : Int)) (hq3 : q ≤ 300) (hpc : I 24 3 = (pc : Int)) (hpc2 : pc ≤ 200) (hj : I 27 m = (j : Int)) (hj3 : j ≤ 300) (hpap : mPap I pc t) (hV : ∀ k w, k < 7 → w ≤ t → 0 ≤ mV I k w ∧ mV I k w ≤ 400) (hO : ∀ w, w ≤ t → -2147483648 ≤ sOw I m w q j ∧ sOw I m w q j ≤ 2147483647) : ∀ d : Nat, ∀ I', gE I I' m q t j pc d → d ≤ 7 * t + 7 → Z l E jX7_go (rm 3 68) (yE E 0 0 (yS none n sh P (fun I' => mGo I I' m q j pc t))) 0 0 (zw E n sh I' P) 228 [(0, .ref (zb E + 24)), (1, .int (iI m)), (2, .int (iI (7 * (t : Int) + 7))), (3, .int (iI (bI (ANm I m q pc = true)))), (4, .int (iI (sSt (fun d => SKm I m q pc d) (mV I 5) d).1)), (5, .int (iI (sSt (fun d => SKm I m q pc d) (mV I 5) d).2.1)), (6, .int (iI (sSt (fun d => SKm I m q pc d) (mV I 5) d).2.2)), (7, .int (iI d))] [] := by
  refine zloop (fun d : Nat => 7 * t + 7 - d) (fun d ih I' hE hd0 => ?_)
  refine z_iload dX7_go_228 rfl ?_
  refine z_iload_n dX7_go_230 rfl ?_
  refine z_icmp_ge 330 dX7_go_231 (by decide) (by omega) (by omega) (fun c_231 => ?_) (fun c_231 => ?_)
  · have hno : ∀ d', d ≤ d' → d' < 7 * t + 7 → ¬ (fun d => SKm I m q pc d) d' = true := fun d' h1 h2 h => by first | omega | exact absurd (sSk_any h) (bI_0 c_235)
    have hgr : ∀ w', sGr (fun d => SKm I m q pc d) (mV I) (fun w => OUm I m q j w) w' d = sGr (fun d => SKm I m q pc d) (mV I) (fun w => OUm I m q j w) w' (7 * t + 7) := by
      intro w'
      first
        | (have e : d = 7 * t + 7 := by omega
           rw [e])
        | rw [sGr_0 (fun d' h => absurd (sSk_any h) (bI_0 c_235)), sGr_0 (fun d' h => absurd (sSk_any h) (bI_0 c_235))]
    refine y_return dX7_go_330 rfl ?_
    refine ⟨rfl, rfl, rfl, rfl, hE.1, fun d' hd' => ?_, fun w' hw' => ?_⟩
    · by_cases hlt : d' < d
      · exact ((hE.2.1 d' hd').2.1 hlt)
      · have hz := (hE.2.1 d' hd').2.2 (by omega)
        rw [sWh_0 (hno d' (by omega) hd'), sCo_0 (hno d' (by omega) hd')]
        exact hz
    · rw [(hE.2.2 w' hw').2]
      exact hgr w'
  · refine z_iload_n dX7_go_234 rfl ?_
    refine z_if_eq 330 dX7_go_235 (by decide) (bI_rng _) (fun c_235 => ?_) (fun c_235 => ?_)
    · have hno : ∀ d', d ≤ d' → d' < 7 * t + 7 → ¬ (fun d => SKm I m q pc d) d' = true := fun d' h1 h2 h => by first | omega | exact absurd (sSk_any h) (bI_0 c_235)
      have hgr : ∀ w', sGr (fun d => SKm I m q pc d) (mV I) (fun w => OUm I m q j w) w' d = sGr (fun d => SKm I m q pc d) (mV I) (fun w => OUm I m q j w) w' (7 * t + 7) := by
        intro w'
        first
          | (have e : d = 7 * t + 7 := by omega
             rw [e])
          | rw [sGr_0 (fun d' h => absurd (sSk_any h) (bI_0 c_235)), sGr_0 (fun d' h => absurd (sSk_any h) (bI_0 c_235))]
      refine y_return dX7_go_330 rfl ?_
      refine ⟨rfl, rfl, rfl, rfl, hE.1, fun d' hd' => ?_, fun w' hw' => ?_⟩
      · by_cases hlt : d' < d
        · exact ((hE.2.1 d' hd').2.1 hlt)
        · have hz := (hE.2.1 d' hd').2.2 (by omega)
          rw [sWh_0 (hno d' (by omega) hd'), sCo_0 (hno d' (by omega) hd')]
          exact hz
      · rw [(hE.2.2 w' hw').2]
        exact hgr w'
    · have hlt : d < 7 * t + 7 := by omega
      have hany : ANm I m q pc = true := bI_1 c_235
      refine z_aload_n dX7_go_238 rfl ?_
      refine y_getR dX7_go_239 fX7_79 (hM.lt (by decide)) (hM.2.1 24 (by decide)) rfl (hM.2.2 29) ?_
      refine z_iload dX7_go_242 rfl ?_
      refine y_baloadJ (d) dX7_go_244 (hM.lt (by decide)) (hM.2.1 48 (by decide)) (by omega) (by decide) ?_
      rw [(hE.2.1 d hlt).1]
      refine z_if_ne 251 dX7_go_245 (by decide) (bI_rng _) (fun c_245 => ?_) (fun c_245 => ?_)
      · have hs : (fun d => SKm I m q pc d) d = true := bI_1 c_245
        have hst := sSt_rng (fun d => SKm I m q pc d) (mV I 5) d
        have hst2 := sSt_rng (fun d => SKm I m q pc d) (mV I 5) (d + 1)
        have e45 : I' 45 = I 45 := hE.1.row (by omega)
        refine z_iload dX7_go_251 rfl ?_
        refine z_bipush dX7_go_253 rfl ?_
        refine z_idiv dX7_go_255 (by omega) (by omega) ?_
        refine z_top ((d / 7 : Nat) : Int) (by rw [Int.tdiv_eq_ediv_of_nonneg (by omega)]; omega) ?_
        refine z_istore dX7_go_256 (by decide) ?_
        refine z_iload dX7_go_258 rfl ?_
        refine z_iconst dX7_go_260 ?_
        refine z_icmp_eq 281 dX7_go_261 (by decide) (by omega) (by omega) (fun c_261 => ?_) (fun c_261 => ?_)
        · refine z_iload dX7_go_281 rfl ?_
          refine z_istore dX7_go_283 (by decide) ?_
          refine z_iconst dX7_go_285 ?_
          refine z_istore dX7_go_286 (by decide) ?_
          refine z_keys [0, 1, 2, 3, 4, 5, 6, 7, 8] ?_
          exact l5_X7_go hM hm ht ht3 hq hq3 hpc hpc2 hj hj3 hpap hV hO hlt hany hs ih hE (b := d / 7) (c := 0) (by omega) (by omega) (by rw [sSt_succ, if_pos hs, if_pos (by omega)]; rfl) e45
        · refine z_iload dX7_go_264 rfl ?_
          refine z_iload dX7_go_266 rfl ?_
          refine z_isub dX7_go_268 ?_
          refine z_iconst dX7_go_269 ?_
          refine z_isub dX7_go_270 ?_
          refine z_aload_n dX7_go_271 rfl ?_
          refine z_iconst dX7_go_272 ?_
          refine z_iload dX7_go_273 rfl ?_
          refine y_callV dX7_go_275 kX7_114 (c_X7_value (I := I') (k := 5) (w := d / 7) hM (by omega) (by omega)) (hM.lt (by decide)) (hM.2.1 24 (by decide)) rfl rfl rfl (Nat.le_of_ble_eq_true rfl) ⟨⟨by decide, by decide⟩, by decide, by decide⟩ (fun v275 n275 sh275 I275 P275 hp275 => ?_)
          obtain ⟨rfl, rfl, rfl, rfl, rfl⟩ := hp275
          have hv5 := hV 5 (d / 7) (by omega) (by omega)
          have ev : I' 45 (301 * 5 + d / 7) = mV I 5 (d / 7) := by rw [e45]; rfl
          rw [ev]
          refine z_icmp_le 288 dX7_go_278 (by decide) (by omega) (by omega) (fun c_278 => ?_) (fun c_278 => ?_)
          · refine z_keys [0, 1, 2, 3, 4, 5, 6, 7, 8] ?_
            exact l5_X7_go hM hm ht ht3 hq hq3 hpc hpc2 hj hj3 hpap hV hO hlt hany hs ih hE (b := (sSt (fun d => SKm I m q pc d) (mV I 5) d).2.1) (c := (sSt (fun d => SKm I m q pc d) (mV I 5) d).2.2) (by omega) (by omega) (by rw [sSt_succ, if_pos hs, if_neg (by omega)]) e45
          · refine z_iload dX7_go_281 rfl ?_
            refine z_istore dX7_go_283 (by decide) ?_
            refine z_iconst dX7_go_285 ?_
            refine z_istore dX7_go_286 (by decide) ?_
            refine z_keys [0, 1, 2, 3, 4, 5, 6, 7, 8] ?_
            exact l5_X7_go hM hm ht ht3 hq hq3 hpc hpc2 hj hj3 hpap hV hO hlt hany hs ih hE (b := d / 7) (c := 0) (by omega) (by omega) (by rw [sSt_succ, if_pos hs, if_pos (by omega)]; rfl) e45
      · have hns : ¬ (fun d => SKm I m q pc d) d = true := bI_0 c_245
        refine z_goto 324 dX7_go_248 (by decide) ?_
        refine z_iinc dX7_go_324 rfl (by decide) ?_
        refine z_goto 228 dX7_go_327 (by decide) ?_
        refine z_keys [0, 1, 2, 3, 4, 5, 6, 7] ?_
        have h5 := ih (d + 1) (by omega) I' ⟨hE.1, fun d' hd' => ⟨(hE.2.1 d' hd').1, fun h => ?_, fun h => (hE.2.1 d' hd').2.2 (by omega)⟩, fun w' hw' => ⟨(hE.2.2 w' hw').1, ?_⟩⟩ (by omega)
        · rw [sSt_succ, if_neg hns] at h5
          exact h5
        · by_cases e : d' = d
          · subst e
            rw [sWh_0 hns, sCo_0 hns]
            exact (hE.2.1 d' hd').2.2 (by omega)
          · exact (hE.2.1 d' hd').2.1 (by omega)
        · rw [sGr_succ, sCo_0 hns, (hE.2.2 w' hw').2]
          split <;> omega
set_option maxHeartbeats 4000000 in
set_option maxRecDepth 100000 in
theorem l3_X7_go (hM : yM n sh P) {m t q j pc : Nat} (hm : m < 40) (ht : I 24 0 = (t : Int)) (ht3 : t ≤ 300) (hq : I 24 26 = (q : Int)) (hq3 : q ≤ 300) (hpc : I 24 3 = (pc : Int)) (hpc2 : pc ≤ 200) (hj : I 27 m = (j : Int)) (hj3 : j ≤ 300) (hpap : mPap I pc t) (hV : ∀ k w, k < 7 → w ≤ t → 0 ≤ mV I k w ∧ mV I k w ≤ 400) (hO : ∀ w, w ≤ t → -2147483648 ≤ sOw I m w q j ∧ sOw I m w q j ≤ 2147483647) : ∀ w : Nat, ∀ I', gD I I' m q t j pc w → w ≤ t + 1 → Z l E jX7_go (rm 3 68) (yE E 0 0 (yS none n sh P (fun I' => mGo I I' m q j pc t))) 0 0 (zw E n sh I' P) 167 [(0, .ref (zb E + 24)), (1, .int (iI m)), (2, .int (iI (7 * (t : Int) + 7))), (3, .int (iI (bI (ANm I m q pc = true)))), (4, .int (iI w))] [] := by
  refine zloop (fun w : Nat => t + 1 - w) (fun w ih I' hD hw0 => ?_)
  refine z_iload dX7_go_167 rfl ?_
  refine z_aload_n dX7_go_169 rfl ?_
  refine y_getI dX7_go_170 fX7_100 (hM.lt (by decide)) (hM.2.1 24 (by decide)) rfl ?_
  rw [hD.1.1 24 0 (by omega), ht]
  refine z_icmp_gt 216 dX7_go_173 (by decide) (by omega) (by omega) (fun c_173 => ?_) (fun c_173 => ?_)
  · refine z_iconst dX7_go_216 ?_
    refine z_istore dX7_go_217 (by decide) ?_
    refine z_iconst dX7_go_219 ?_
    refine z_istore dX7_go_220 (by decide) ?_
    refine z_iconst dX7_go_222 ?_
    refine z_istore dX7_go_223 (by decide) ?_
    refine z_iconst dX7_go_225 ?_
    refine z_istore dX7_go_226 (by decide) ?_
    refine z_keys [0, 1, 2, 3, 4, 5, 6, 7] ?_
    exact l4_X7_go hM hm ht ht3 hq hq3 hpc hpc2 hj hj3 hpap hV hO 0 I' ⟨hD.1.1, fun d' hd' => ⟨(hD.1.2 d' hd').2.2, fun h => by omega, fun _ => ⟨(hD.1.2 d' hd').1, (hD.1.2 d' hd').2.1⟩⟩, fun w' hw' => ⟨(hD.2 w' (by omega)).2, (hD.2 w' (by omega)).1⟩⟩ (by omega)
  · refine z_aload_n dX7_go_176 rfl ?_
    refine y_getR dX7_go_177 fX7_86 (hM.lt (by decide)) (hM.2.1 24 (by decide)) rfl (hM.2.2 31) ?_
    refine z_iload dX7_go_180 rfl ?_
    refine z_iconst dX7_go_182 ?_
    refine y_iastoreJ (w) dX7_go_183 (hM.lt (by decide)) (hM.2.1 50 (by decide)) (by omega) (by decide) ?_
    refine z_aload_n dX7_go_184 rfl ?_
    refine y_getR dX7_go_185 fX7_83 (hM.lt (by decide)) (hM.2.1 24 (by decide)) rfl (hM.2.2 30) ?_
    refine z_iload dX7_go_188 rfl ?_
    have hF : gF I (zup I' 50 w 0) := hD.1.1.up (by omega)
    refine zcut 209 (bI (ANm I m q pc = true ∧ OUm I m q j w = true)) ?_ (fun hc_190 => ?_)
    · refine y_bastoreJ (w) dX7_go_209 (hM.lt (by decide)) (hM.2.1 49 (by decide)) (by omega) (by decide) (bI_or _) ?_
      refine z_iinc dX7_go_210 rfl (by decide) ?_
      refine z_goto 167 dX7_go_213 (by decide) ?_
      refine z_keys [0, 1, 2, 3, 4] ?_
      refine ih (w + 1) (by omega) _ ⟨⟨hF.up (by omega), fun d' hd' => ?_⟩, fun w' hw' => ?_⟩ (by omega)
      · rw [zup_ne (by omega), zup_ne (by omega), zup_ne (by omega), zup_ne (by omega), zup_ne (by omega), zup_ne (by omega)]; exact hD.1.2 d' hd'
      · by_cases e : w' = w
        · subst e; simp [zup]
        · have h := hD.2 w' (by omega)
          simp only [zup, e, and_false, if_false]; exact h
    · refine z_iload_n dX7_go_190 rfl ?_
      refine z_if_eq 208 dX7_go_191 (by decide) (bI_rng _) (fun c_191 => ?_) (fun c_191 => ?_)
      · refine z_iconst dX7_go_208 ?_
        exact hc_190 _ (by first | (rw [bI_t ⟨bI_1 c_191, by first | exact decide_eq_true (bI_1 c_201) | exact decide_eq_true (by omega)⟩]; done) | (rw [bI_f (fun h => bI_0 c_191 h.1)]; done) | (rw [bI_f (fun h => bI_0 c_201 (of_decide_eq_true h.2))]; done))
      · refine z_aload_n dX7_go_194 rfl ?_
        refine z_iload_n dX7_go_195 rfl ?_
        refine z_iload dX7_go_196 rfl ?_
        refine y_callV dX7_go_198 kX7_124 (c_X7_isOut (I := (zup I' 50 w 0)) (q := q) (j := j) hM hm (by omega) (by rw [hF 24 26 (by omega)]; exact hq) hq3 (by rw [hF 27 m (by omega)]; exact hj) hj3 (by rw [sOw_cong (hF.row (by omega)) (hF.row (by omega))]; exact hO w (by omega)) (by rw [hF.row (by omega)]; exact hV 6 w (by omega) (by omega)) (by rw [hF.row (by omega)]; have h := hV 0 w (by omega) (by omega); unfold mV at h; rw [show 301 * 0 + w = w by omega] at h; exact h)) (hM.lt (by decide)) (hM.2.1 24 (by decide)) rfl rfl rfl (Nat.le_of_ble_eq_true rfl) ⟨⟨by decide, by decide⟩, by decide, by decide⟩ (fun v198 n198 sh198 I198 P198 hp198 => ?_)
        obtain ⟨rfl, rfl, rfl, rfl, rfl⟩ := hp198
        have eo : bI ((zup I' 50 w 0) 45 (301 * 6 + w) * (zup I' 50 w 0) 45 w < sOw (zup I' 50 w 0) m w q j) = bI (mV I 6 w * mV I 0 w < sOw I m w q j) := by
          rw [sOw_cong (hF.row (by omega)) (hF.row (by omega)), hF.row (a := 45) (by omega)]
          unfold mV
          rw [show 301 * 0 + w = w by omega]
        rw [eo]
        refine z_if_eq 208 dX7_go_201 (by decide) (bI_rng _) (fun c_201 => ?_) (fun c_201 => ?_)
        · refine z_iconst dX7_go_208 ?_
          exact hc_190 _ (by first | (rw [bI_t ⟨bI_1 c_191, by first | exact decide_eq_true (bI_1 c_201) | exact decide_eq_true (by omega)⟩]; done) | (rw [bI_f (fun h => bI_0 c_191 h.1)]; done) | (rw [bI_f (fun h => bI_0 c_201 (of_decide_eq_true h.2))]; done))
        · refine z_iconst dX7_go_204 ?_
          refine z_goto 209 dX7_go_205 (by decide) ?_
          exact hc_190 _ (by first | (rw [bI_t ⟨bI_1 c_191, by first | exact decide_eq_true (bI_1 c_201) | exact decide_eq_true (by omega)⟩]; done) | (rw [bI_f (fun h => bI_0 c_191 h.1)]; done) | (rw [bI_f (fun h => bI_0 c_201 (of_decide_eq_true h.2))]; done))
end MG2
