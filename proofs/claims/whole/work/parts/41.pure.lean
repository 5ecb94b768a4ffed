/-- the end of a call of the class: its answer, the reference untouched, the state M' -/
def kP (v : Value) (I : Nat → Nat → Int) (P : Nat → Nat → Option Nat) (M' : Nat → Nat → Int) (t' mc' rc' pc' bc' rl' : Nat) : Option Value → Nat → (Nat → Nat × Nat) → (Nat → Nat → Int) → (Nat → Nat → Option Nat) → Prop :=
  fun v' n' sh' I' P' => v' = some v ∧ (yB n' sh' P' ∧ (∀ a, 24 ≤ a → a < 52 → I' a = I a) ∧ P' 24 = P 24) ∧ ∃ ma pa Ls r, cpl n' sh' I' P' M' t' mc' rc' pc' bc' ma pa Ls r rl'
section CPL2
variable {n : Nat} {sh : Nat → Nat × Nat} {I : Nat → Nat → Int} {P : Nat → Nat → Option Nat} {M : Nat → Nat → Int} {t mc rc pc bc c : Nat} {ma pa : Nat → Nat} {Ls : Nat → List Nat} {r rl : Nat}
theorem kP.same {v : Value} (hB : yB n sh P) (hC : cpl n sh I P M t mc rc pc bc ma pa Ls r rl) : kP v I P M t mc rc pc bc rl (some v) n sh I P := ⟨rfl, ⟨hB, fun _ _ _ => rfl, rfl⟩, _, _, _, _, hC⟩
theorem mOk.paid (h : mOk M t mc rc pc bc c) {m : Nat} (hm : m < mc) : sm (pd M m) 301 = sm (pd M m) (t + 1) := by
  have h1 := h.2.1
  exact sm_zero_tail (by omega) (fun k h2 h3 => h.2.2.2.2.2.1.2.2 m k (by omega) (by omega) (by omega))
theorem yMb.l0 {a : Nat} (h : yMb n sh P a) : a < n := by have := h.1; omega
theorem yMb.l1 {a : Nat} (h : yMb n sh P a) : a + 1 < n := by have := h.1; omega
theorem yMb.l2 {a : Nat} (h : yMb n sh P a) : a + 2 < n := by have := h.1; omega
theorem yMb.l3 {a : Nat} (h : yMb n sh P a) : a + 3 < n := by have := h.1; omega
theorem cok.no {I' : Nat → Nat → Int} (h : cok I') : cok (zup I' 3 7 (-1)) := by
  refine ⟨by simpa [zup] using h.1, by simp [zup], by simpa [zup] using h.2.2.1, fun c T h1 => ?_⟩
  have e : zup I' 3 7 (-1) 3 7 = -1 := by simp [zup]
  rw [e] at h1
  omega
/-- behind lookFrom -/
theorem cpl.look {I' : Nat → Nat → Int} {q : Int} {T : Nat} (hO : mOk M t mc rc pc bc c) (hC : cpl n sh I P M t mc rc pc bc ma pa Ls r rl) (h : lkF I I' ∧ cok I' ∧ tbl I' (sKn (I 7) q rc) T ∧ I' 3 7 = ((sKn (I 7) q rc : Nat) : Int)) :
    cpl n sh I' P M t mc rc pc bc ma pa Ls r rl ∧ (∀ k w, k < 7 → w ≤ T → bV I' k w = vF M q rc k w) ∧ (∀ w, w ≤ T → I' 16 w = sm (I' 9) w) ∧ ∀ a, 17 ≤ a → I' a = I a := by
  obtain ⟨h1, h2, h3, h4⟩ := h
  have hr : ∀ a, 17 ≤ a → I' a = I a := fun a ha => h1.row (by omega) (by omega)
  refine ⟨cpl.fr hC hO (fun a b x1 x2 x3 x4 => h1 a b (by omega) x3) h2 ?_ ?_ (fun _ _ _ _ => rfl), fun k w hk hw => cpl.V hO hC h1 h3 hk hw, h3.2, hr⟩
  · rw [h4]
    have := sKn_le (I 7) q rc
    omega
  · unfold cOk
    rw [hr 17 (by omega)]
    exact hC.2.2.1
theorem cMe.mv {I' : Nat → Nat → Int} {m a : Nat} {L : List Nat} (h : cMe n sh I P M t m a L) (hI : ∀ x, 52 ≤ x → I' x = I x) (hL : ∀ x, x ∈ L → 52 ≤ x) : cMe n sh I' P M t m a L := by
  obtain ⟨g1, g2, g3, g4, g5, g6, g7, g8, g9⟩ := h
  have ga := g1.1
  refine ⟨g1, ?_, ?_, ?_, ?_, ?_, g7, srt_ext (fun x hx => by rw [hI x (hL x hx)]) g8, g9⟩
  · rw [hI a (by omega)]; exact g2
  · rw [hI (a + 1) (by omega)]; exact g3
  · rw [hI (a + 2) (by omega)]; exact g4
  · rw [hI a (by omega)]; exact g5
  · rw [hI a (by omega)]; exact g6
theorem skP_ext {I' : Nat → Nat → Int} {q d : Nat} {L : List Nat} (h : ∀ x, x ∈ L → I' x = I x) : skP I' q L d ↔ skP I q L d := by
  unfold skP knX
  constructor
  · rintro ⟨x, hx, h1⟩; rw [h x hx] at h1; exact ⟨x, hx, h1⟩
  · rintro ⟨x, hx, h1⟩; rw [← h x hx] at h1; exact ⟨x, hx, h1⟩
/-- what the course needs of a member, and what it gives: V the table that was looked at; I0 the world before -/
theorem cpl.go {I0 : Nat → Nat → Int} {V : Nat → Nat → Int} {m q : Nat} (hO : mOk M t mc rc pc bc c) (hC : cpl n sh I0 P M t mc rc pc bc ma pa Ls r rl) (hI : ∀ a, 17 ≤ a → I a = I0 a) (hm : m < mc) (hV : ∀ k w, k < 7 → w ≤ t → bV I k w = V k w) (h16 : ∀ w, w ≤ t → I 16 w = sm (I 9) w) (hVr : ∀ k w, k < 7 → w ≤ t → 0 ≤ V k w ∧ V k w ≤ 400) :
    (yMb n sh P (ma m) ∧ I (ma m) 2 = ((jn M m : Nat) : Int) ∧ jn M m ≤ 300) ∧ (∀ w, w ≤ t → -2147483648 ≤ bAr I (ma m) w q (jn M m) ∧ bAr I (ma m) w q (jn M m) ≤ 2147483647) ∧ (∀ k w, k < 7 → w ≤ t → 0 ≤ bV I k w ∧ bV I k w ≤ 400) ∧
    (cOk I ∧ chn P (P (ma m) 8) (Ls m) ∧ srt I (Ls m) ∧ ∀ x, x ∈ Ls m → yPp n sh I x) ∧
    (∀ w, w ≤ t → bAr I (ma m) w q (jn M m) = arr (V 0) (pd M m) (jn M m) w q) ∧ (∀ w, w ≤ t → bOu I (ma m) q (jn M m) w = outB V (pd M m) (jn M m) q w) := by
  obtain ⟨-, hMe⟩ := hC.2.2.2.1 m hm
  have hpp := cpl.pp hO hC hm
  have hMe := hMe.mv (I' := I) (fun x hx => hI x (by omega)) (fun x hx => (hpp x hx).1.1)
  have hj := hO.jnn hm
  have ht := hO.2.1
  have har : ∀ w, w ≤ t → bAr I (ma m) w q (jn M m) = arr (V 0) (pd M m) (jn M m) w q := fun w hw => cMe.ar hMe (fun w hw => hV 0 w (by omega) hw) h16 hw
  refine ⟨⟨hMe.1, by rw [hMe.2.1.2.2]; exact hj.1, by omega⟩, fun w hw => ?_, fun k w hk hw => by rw [hV k w hk hw]; exact hVr k w hk hw, ⟨?_, hMe.2.2.2.2.2.2.1, hMe.2.2.2.2.2.2.2.1, fun x hx => ?_⟩, har, fun w hw => cMe.ou hMe hV h16 hw⟩
  · rw [har w hw]
    have h := arr_rng (du := V 0) (pa := pd M m) (j := jn M m) (w := w) (q := q) (X := 1000000) (by omega) (fun k hk => hVr 0 k (by omega) (by omega)) (fun k _ => hO.2.2.2.2.2.1.1 (301 * m + k)) (hO.ps m hm)
    omega
  · unfold cOk
    rw [hI 17 (by omega)]
    exact hC.2.2.1
  · have h1 := hpp x hx
    unfold yPp at h1 ⊢
    rw [hI x (by omega)]
    exact h1
theorem cpl.gr {I0 : Nat → Nat → Int} {V : Nat → Nat → Int} {m q w : Nat} {S : Nat → Bool} (hO : mOk M t mc rc pc bc c) (hC : cpl n sh I0 P M t mc rc pc bc ma pa Ls r rl) (hI : ∀ a, 17 ≤ a → I a = I0 a) (hm : m < mc) (hV : ∀ k w, k < 7 → w ≤ t → bV I k w = V k w) (h16 : ∀ w, w ≤ t → I 16 w = sm (I 9) w) (hw : w ≤ t) {D : Nat} (hD : 7 * w + 7 ≤ D + 1) (hS : isS I q D (Ls m) S) :
    sGr S (bV I) (bOu I (ma m) q (jn M m)) w (D + 1) = sGr (fun d => SKm M m q pc d) V (fun w => outB V (pd M m) (jn M m) q w) w (7 * t + 7) := by
  obtain ⟨-, hMe⟩ := hC.2.2.2.1 m hm
  have hpp := cpl.pp hO hC hm
  have hMe := hMe.mv (I' := I) (fun x hx => hI x (by omega)) (fun x hx => (hpp x hx).1.1)
  have hk : ∀ d, skP I q (Ls m) d ↔ SKm M m q pc d = true := fun d => (skP_ext (fun x hx => hI x (by have := (hpp x hx).1; omega))).trans (cpl.sk hC hm)
  exact sGr_w (fun d hd => hS.eq hk (by omega)) (fun k j hk hj => hV k j hk (by omega)) (cMe.ou hMe hV h16 hw) hD (by omega)
theorem cpl.wh {I0 : Nat → Nat → Int} {V : Nat → Nat → Int} {m q d : Nat} {S : Nat → Bool} (hO : mOk M t mc rc pc bc c) (hC : cpl n sh I0 P M t mc rc pc bc ma pa Ls r rl) (hI : ∀ a, 17 ≤ a → I a = I0 a) (hm : m < mc) (hV : ∀ k w, k < 7 → w ≤ t → bV I k w = V k w) (h16 : ∀ w, w ≤ t → I 16 w = sm (I 9) w) (hd : d / 7 ≤ t) (hS : isS I q d (Ls m) S) :
    sWh S (bV I) (bOu I (ma m) q (jn M m)) d = sWh (fun d => SKm M m q pc d) V (fun w => outB V (pd M m) (jn M m) q w) d := by
  obtain ⟨-, hMe⟩ := hC.2.2.2.1 m hm
  have hpp := cpl.pp hO hC hm
  have hMe := hMe.mv (I' := I) (fun x hx => hI x (by omega)) (fun x hx => (hpp x hx).1.1)
  have hk : ∀ d, skP I q (Ls m) d ↔ SKm M m q pc d = true := fun d => (skP_ext (fun x hx => hI x (by have := (hpp x hx).1; omega))).trans (cpl.sk hC hm)
  exact sWh_w (fun x hx => hS.eq hk (by omega)) (fun k j hk hj => hV k j hk (by omega)) (cMe.ou hMe hV h16 hd)
theorem yB.p17 {P' : Nat → Nat → Option Nat} (h : yB n sh P) (hP : ∀ a b, a ≠ 17 → (a < 24 ∨ 52 ≤ a) → P' a b = P a b) (h17 : ∀ b, b < 2 → P' 17 b = P 17 b) : yB n sh P' := by
  refine ⟨h.1, h.2.1, fun j => ?_, fun j => ?_, fun j hj => ?_, fun j hj => ?_, fun j => ?_⟩
  · rw [hP 0 j (by omega) (by omega)]; exact h.2.2.1 j
  · rw [hP 3 j (by omega) (by omega)]; exact h.2.2.2.1 j
  · rw [hP 8 j (by omega) (by omega)]; exact h.2.2.2.2.1 j hj
  · rw [h17 j hj]; exact h.2.2.2.2.2.1 j hj
  · rw [hP 21 j (by omega) (by omega)]; exact h.2.2.2.2.2.2 j
theorem cok.mv {I' : Nat → Nat → Int} (hk : cok I) (h3 : ∀ x, x ≤ 16 → I' x = I x) : cok I' := by
  refine ⟨by rw [h3 16 (by omega)]; exact hk.1, by rw [h3 3 (by omega)]; exact hk.2.1, by rw [h3 3 (by omega)]; exact hk.2.2.1, fun c T e1 e2 => ?_⟩
  rw [h3 3 (by omega)] at e1 e2
  exact tbl_ext (hk.2.2.2 c T e1 e2) (fun i _ => by rw [h3 4 (by omega), h3 5 (by omega), h3 6 (by omega)]; exact ⟨rfl, rfl, rfl⟩) (fun a a1 a2 => h3 a (by omega))
/-- behind the course: rows 17, 18 and the slot 2 of 17 have changed -/
theorem cpl.crs {I' : Nat → Nat → Int} {v : Option Nat} (hO : mOk M t mc rc pc bc c) (hC : cpl n sh I P M t mc rc pc bc ma pa Ls r rl) (h1 : ∀ x b, x ≠ 17 → x ≠ 18 → I' x b = I x b) (h2 : cOk I') : cpl n sh I' (zpu P 17 2 v) M t mc rc pc bc ma pa Ls r rl := by
  have h3 : ∀ x, x ≤ 16 → I' x = I x := fun x a => funext fun y => h1 x y (by omega) (by omega)
  refine cpl.fr hC hO (fun a b x1 x2 x3 x4 => h1 a b (by omega) (by omega)) (hC.2.1.2.2.2.1.mv h3) ?_ h2 (fun a b ha _ => by rw [zpu_ne ha])
  rw [h3 3 (by omega)]; exact hC.2.1.2.2.2.2
theorem kP.ls {v : Value} {I' : Nat → Nat → Int} (hB : yB n sh P) (hC : cpl n sh I' P M t mc rc pc bc ma pa Ls r rl) (hr : ∀ a, 17 ≤ a → I' a = I a) : kP v I P M t mc rc pc bc rl (some v) n sh I' P := ⟨rfl, ⟨hB, fun a h _ => hr a (by omega), rfl⟩, _, _, _, _, hC⟩
theorem kP.cs {v : Value} {I' I2 : Nat → Nat → Int} {x : Option Nat} (hO : mOk M t mc rc pc bc c) (hB : yB n sh P) (hC : cpl n sh I' P M t mc rc pc bc ma pa Ls r rl) (hr : ∀ a, 17 ≤ a → I' a = I a) (hf : ∀ x b, x ≠ 17 → x ≠ 18 → I2 x b = I' x b) (hk : cOk I2) : kP v I P M t mc rc pc bc rl (some v) n sh I2 (zpu P 17 2 x) :=
  ⟨rfl, ⟨hB.sick x, fun a h _ => by rw [← hr a (by omega)]; exact funext fun b => hf a b (by omega) (by omega), by rw [zpu_ne (by omega)]⟩, _, _, _, _, cpl.crs hO hC hf hk⟩
/-- a rule that is but supposed -/
theorem cpl.sup {I' : Nat → Nat → Int} {k f v : Int} (hO : mOk M t mc rc pc bc c) (hC : cpl n sh I P M t mc rc pc bc ma pa Ls r rl) (hru : sRule k f v) (hl : lkF (bWr I rc k f v (t : Int)) I') (ht : tbl I' (rc + 1) t) {k0 w : Nat} (hk : k0 < 7) (hw : w ≤ t) : bV I' k0 w = vF (mWr M rc k f v (t : Int)) (t : Int) (rc + 1) k0 w := by
  have hb := hO.2.1
  have hR := bWr_rl (cpl.Rl hO hC) hru (t := (t : Int)) (by omega)
  have hto : ∀ i, i < rc + 1 → bWr I rc k f v (t : Int) 7 i ≤ (t : Int) := fun i hi => by
    by_cases e : i = rc
    · subst e; simp [bWr, zup]
    · rw [bWr_at e, (hC.2.1.2.1 i (by omega)).2.2.2]; exact hO.2.2.1.2 i (by omega)
  show I' (9 + k0) w = _
  rw [ht.1 k0 w hk hw, hl.sG, ← (sF_sG hR hto).1]
  unfold vF
  rw [sFI_ext (I := mWr M rc k f v (t : Int)) (I' := bWr I rc k f v (t : Int)) (o := 29) (o' := 4) (fun i hi => ?_)]
  by_cases e : i = rc
  · subst e; simp [bWr, mWr, zup]
  · have h1 := hC.2.1.2.1 i (by omega)
    rw [bWr_at e, bWr_at e, bWr_at e, bWr_at e]
    simp only [mWr, zup, e, and_false, if_false]
    exact h1
theorem GRm_wr {k f v tt : Int} {m q pc many w D rc : Nat} : GRm (mWr M rc k f v tt) m q pc many w D = sGr (fun d => SKm M m q pc d) (vF (mWr M rc k f v tt) (q : Int) many) (fun w => outB (vF (mWr M rc k f v tt) (q : Int) many) (pd M m) (jn M m) q w) w D := by
  unfold GRm SKm pd jn
  rw [mWr_ne (a := 33) (by omega), mWr_ne (a := 34) (by omega), mWr_ne (a := 35) (by omega), mWr_ne (a := 36) (by omega), mWr_ne (a := 37) (by omega), mWr_ne (a := 28) (by omega), mWr_ne (a := 27) (by omega)]
theorem kP.wt {v0 : Value} {I' I2 : Nat → Nat → Int} {x : Option Nat} {k f v : Int} (hO : mOk M t mc rc pc bc c) (hB : yB n sh P) (hC : cpl n sh I P M t mc rc pc bc ma pa Ls r rl) (hl : lkF (bWr I rc k f v (t : Int)) I') (hc : cok I') (hf : ∀ x b, x ≠ 17 → x ≠ 18 → I2 x b = I' x b) (hk : cOk I2) : kP v0 I P M t mc rc pc bc rl (some v0) n sh (zup I2 3 7 (-1)) (zpu P 17 2 x) := by
  refine ⟨rfl, ⟨hB.sick x, fun a h1 h2 => ?_, by rw [zpu_ne (by omega)]⟩, ma, pa, Ls, r, cpl.fr hC hO (fun a b x1 x2 x3 x4 => ?_) (cok.no (hc.mv (fun y hy => funext fun b => hf y b (by omega) (by omega)))) ?_ ?_ (fun a b ha _ => by rw [zpu_ne ha])⟩
  · rw [zup_ne (by omega), ← bWr_ne (I := I) (r := rc) (k := k) (f := f) (v := v) (t := (t : Int)) (a := a) (by omega), ← hl.row (a := a) (by omega) (by omega)]
    exact funext fun b => hf a b (by omega) (by omega)
  · rw [show zup I2 3 7 (-1) a b = I2 a b by simp only [zup, show ¬ (a = 3 ∧ b = 7) by omega, if_false], hf a b (by omega) (by omega), hl a b (by omega) x3]
    by_cases e : 4 ≤ a ∧ a ≤ 7
    · exact bWr_at (by omega)
    · rw [bWr_ne (by omega)]
  · simp only [zup, and_self, if_true]; omega
  · unfold cOk; rw [zup_ne (by omega)]; exact hk
end CPL2
theorem ent_eq {n : Nat} {sh : Nat → Nat × Nat} {I : Nat → Nat → Int} {P : Nat → Nat → Option Nat} {M : Nat → Nat → Int} {bc r rl : Nat} (hL : cLe n sh I P M bc r rl) {i a : Int} : (if ((0 ≤ i ∧ i < (bc : Int)) ∧ (0 ≤ a ∧ a < 4)) then I r (4 * i.toNat + a.toNat) else -1000000) = (if (0 ≤ i ∧ i < (bc : Int)) then mEn M i.toNat a else -1000000) := by
  by_cases hi0 : 0 ≤ i ∧ i < (bc : Int)
  · have hv := hL.2.2.2 i.toNat (by omega)
    rw [if_pos hi0]
    unfold mEn
    by_cases ha0 : 0 ≤ a ∧ a < 4
    · rw [if_pos ⟨hi0, ha0⟩]
      rcases (show a = 0 ∨ a = 1 ∨ a = 2 ∨ a = 3 by omega) with rfl | rfl | rfl | rfl
      · rw [if_pos rfl]; exact hv.1
      · rw [if_neg (by decide), if_pos rfl]; exact hv.2.1
      · rw [if_neg (by decide), if_neg (by decide), if_pos rfl]; exact hv.2.2.1
      · rw [if_neg (by decide), if_neg (by decide), if_neg (by decide), if_pos rfl]; exact hv.2.2.2
    · rw [if_neg (fun h => ha0 h.2), if_neg (by omega), if_neg (by omega), if_neg (by omega), if_neg (by omega)]
  · rw [if_neg (fun h => hi0 h.1), if_neg hi0]
