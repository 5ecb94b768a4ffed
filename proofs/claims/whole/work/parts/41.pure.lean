/-- the end of a call of the class: its answer, the reference untouched, the state M' -/
def kP (v : Value) (I : Nat → Nat → Int) (P : Nat → Nat → Option Nat) (M' : Nat → Nat → Int) (t' mc' rc' pc' bc' rl' : Nat) : Option Value → Nat → (Nat → Nat × Nat) → (Nat → Nat → Int) → (Nat → Nat → Option Nat) → Prop :=
  fun v' n' sh' I' P' => v' = some v ∧ (yB n' sh' P' ∧ (∀ a, 24 ≤ a → a < 52 → I' a = I a) ∧ P' 24 = P 24) ∧ ∃ ma pa Ls r, cpl n' sh' I' P' M' t' mc' rc' pc' bc' ma pa Ls r rl'
section CPL2
variable {n : Nat} {sh : Nat → Nat × Nat} {I : Nat → Nat → Int} {P : Nat → Nat → Option Nat} {M : Nat → Nat → Int} {t mc rc pc bc c : Nat} {ma pa : Nat → Nat} {Ls : Nat → List Nat} {r rl : Nat}
theorem kP.same {v : Value} (hB : yB n sh P) (hC : cpl n sh I P M t mc rc pc bc ma pa Ls r rl) : kP v I P M t mc rc pc bc rl (some v) n sh I P := ⟨rfl, ⟨hB, fun _ _ _ => rfl, rfl⟩, _, _, _, _, hC⟩
theorem mOk.paid (h : mOk M t mc rc pc bc c) {m : Nat} (hm : m < mc) : sm (pd M m) 301 = sm (pd M m) (t + 1) := by
  have h1 := h.2.1
  exact sm_zero_tail (by omega) (fun k h2 h3 => h.2.2.2.2.2.1.2.2 m k (by omega) (by omega) (by omega))
theorem yMb.l0 {a : Nat} (h : yMb n sh P a) : a < n := by have := h.1; omega
theorem yMb.l1 {a : Nat} (h : yMb n sh P a) : a + 1 < n := by have := h.1; omega
theorem yMb.l2 {a : Nat} (h : yMb n sh P a) : a + 2 < n := by have := h.1; omega
theorem yMb.l3 {a : Nat} (h : yMb n sh P a) : a + 3 < n := by have := h.1; omega
theorem cok.no {I' : Nat → Nat → Int} (h : cok I') : cok (zup I' 3 7 (-1)) := by
  refine ⟨by simpa [zup] using h.1, by simp [zup], by simpa [zup] using h.2.2.1, fun c T h1 => ?_⟩
  have e : zup I' 3 7 (-1) 3 7 = -1 := by simp [zup]
  rw [e] at h1
  omega
/-- behind lookFrom -/
theorem cpl.look {I' : Nat → Nat → Int} {q : Int} {T : Nat} (hO : mOk M t mc rc pc bc c) (hC : cpl n sh I P M t mc rc pc bc ma pa Ls r rl) (h : lkF I I' ∧ cok I' ∧ tbl I' (sKn (I 7) q rc) T ∧ I' 3 7 = ((sKn (I 7) q rc : Nat) : Int)) :
    cpl n sh I' P M t mc rc pc bc ma pa Ls r rl ∧ (∀ k w, k < 7 → w ≤ T → bV I' k w = vF M q rc k w) ∧ (∀ w, w ≤ T → I' 16 w = sm (I' 9) w) ∧ ∀ a, 17 ≤ a → I' a = I a := by
  obtain ⟨h1, h2, h3, h4⟩ := h
  have hr : ∀ a, 17 ≤ a → I' a = I a := fun a ha => h1.row (by omega) (by omega)
  refine ⟨cpl.fr hC hO (fun a b x1 x2 x3 x4 => h1 a b (by omega) x3) h2 ?_ ?_ (fun _ _ _ _ => rfl), fun k w hk hw => cpl.V hO hC h1 h3 hk hw, h3.2, hr⟩
  · rw [h4]
    have := sKn_le (I 7) q rc
    omega
  · unfold cOk
    rw [hr 17 (by omega)]
    exact hC.2.2.1
/-- what the course needs of a member, and what it gives: V the table that was looked at -/
theorem cpl.go {V : Nat → Nat → Int} {m q : Nat} (hO : mOk M t mc rc pc bc c) (hC : cpl n sh I P M t mc rc pc bc ma pa Ls r rl) (hm : m < mc) (hV : ∀ k w, k < 7 → w ≤ t → bV I k w = V k w) (h16 : ∀ w, w ≤ t → I 16 w = sm (I 9) w) (hVr : ∀ k w, k < 7 → w ≤ t → 0 ≤ V k w ∧ V k w ≤ 400) :
    (yMb n sh P (ma m) ∧ I (ma m) 2 = ((jn M m : Nat) : Int) ∧ jn M m ≤ 300) ∧ (∀ w, w ≤ t → -2147483648 ≤ bAr I (ma m) w q (jn M m) ∧ bAr I (ma m) w q (jn M m) ≤ 2147483647) ∧ (∀ k w, k < 7 → w ≤ t → 0 ≤ bV I k w ∧ bV I k w ≤ 400) ∧
    (cOk I ∧ chn P (P (ma m) 8) (Ls m) ∧ srt I (Ls m) ∧ ∀ x, x ∈ Ls m → yPp n sh I x) ∧
    (∀ w, w ≤ t → bAr I (ma m) w q (jn M m) = arr (V 0) (pd M m) (jn M m) w q) ∧ (∀ w, w ≤ t → bOu I (ma m) q (jn M m) w = outB V (pd M m) (jn M m) q w) := by
  obtain ⟨-, hMe⟩ := hC.2.2.2.1 m hm
  have hj := hO.jnn hm
  have ht := hO.2.1
  have har : ∀ w, w ≤ t → bAr I (ma m) w q (jn M m) = arr (V 0) (pd M m) (jn M m) w q := fun w hw => cMe.ar hMe (fun w hw => hV 0 w (by omega) hw) h16 hw
  refine ⟨⟨hMe.1, by rw [hMe.2.1.2.2]; exact hj.1, by omega⟩, fun w hw => ?_, fun k w hk hw => by rw [hV k w hk hw]; exact hVr k w hk hw, ⟨hC.2.2.1, hMe.2.2.2.2.2.2.1, hMe.2.2.2.2.2.2.2.1, cpl.pp hO hC hm⟩, har, fun w hw => cMe.ou hMe hV h16 hw⟩
  rw [har w hw]
  have h := arr_rng (du := V 0) (pa := pd M m) (j := jn M m) (w := w) (q := q) (X := 1000000) (by omega) (fun k hk => hVr 0 k (by omega) (by omega)) (fun k _ => hO.2.2.2.2.2.1.1 (301 * m + k)) (hO.ps m hm)
  omega
theorem cpl.gr {V : Nat → Nat → Int} {m q w : Nat} {S : Nat → Bool} (hC : cpl n sh I P M t mc rc pc bc ma pa Ls r rl) (hm : m < mc) (hV : ∀ k w, k < 7 → w ≤ t → bV I k w = V k w) (h16 : ∀ w, w ≤ t → I 16 w = sm (I 9) w) (hw : w ≤ t) {D : Nat} (hD : 7 * w + 7 ≤ D + 1) (hS : isS I q D (Ls m) S) :
    sGr S (bV I) (bOu I (ma m) q (jn M m)) w (D + 1) = sGr (fun d => SKm M m q pc d) V (fun w => outB V (pd M m) (jn M m) q w) w (7 * t + 7) := by
  obtain ⟨-, hMe⟩ := hC.2.2.2.1 m hm
  exact sGr_w (fun d hd => hS.eq (fun d => cpl.sk hC hm) (by omega)) (fun k j hk hj => hV k j hk (by omega)) (cMe.ou hMe hV h16 hw) hD (by omega)
theorem cpl.wh {V : Nat → Nat → Int} {m q d : Nat} {S : Nat → Bool} (hC : cpl n sh I P M t mc rc pc bc ma pa Ls r rl) (hm : m < mc) (hV : ∀ k w, k < 7 → w ≤ t → bV I k w = V k w) (h16 : ∀ w, w ≤ t → I 16 w = sm (I 9) w) (hd : d / 7 ≤ t) (hS : isS I q d (Ls m) S) :
    sWh S (bV I) (bOu I (ma m) q (jn M m)) d = sWh (fun d => SKm M m q pc d) V (fun w => outB V (pd M m) (jn M m) q w) d := by
  obtain ⟨-, hMe⟩ := hC.2.2.2.1 m hm
  exact sWh_w (fun x hx => hS.eq (fun d => cpl.sk hC hm) (by omega)) (fun k j hk hj => hV k j hk (by omega)) (cMe.ou hMe hV h16 hd)
theorem yB.p17 {P' : Nat → Nat → Option Nat} (h : yB n sh P) (hP : ∀ a b, a ≠ 17 → (a < 24 ∨ 52 ≤ a) → P' a b = P a b) (h17 : ∀ b, b < 2 → P' 17 b = P 17 b) : yB n sh P' := by
  refine ⟨h.1, h.2.1, fun j => ?_, fun j => ?_, fun j hj => ?_, fun j hj => ?_, fun j => ?_⟩
  · rw [hP 0 j (by omega) (by omega)]; exact h.2.2.1 j
  · rw [hP 3 j (by omega) (by omega)]; exact h.2.2.2.1 j
  · rw [hP 8 j (by omega) (by omega)]; exact h.2.2.2.2.1 j hj
  · rw [h17 j hj]; exact h.2.2.2.2.2.1 j hj
  · rw [hP 21 j (by omega) (by omega)]; exact h.2.2.2.2.2.2 j
/-- behind the course: rows 17, 18 and the slot 2 of 17 have changed -/
theorem cpl.crs {I' : Nat → Nat → Int} {v : Option Nat} (hO : mOk M t mc rc pc bc c) (hC : cpl n sh I P M t mc rc pc bc ma pa Ls r rl) (h1 : ∀ x b, x ≠ 17 → x ≠ 18 → I' x b = I x b) (h2 : cOk I') : cpl n sh I' (zpu P 17 2 v) M t mc rc pc bc ma pa Ls r rl := by
  have h3 : ∀ x, x ≠ 17 → x ≠ 18 → I' x = I x := fun x a b => funext fun y => h1 x y a b
  refine cpl.fr hC hO (fun a b x1 x2 x3 x4 => h1 a b (by omega) (by omega)) ?_ ?_ h2 (fun a b ha _ => by rw [zpu_ne ha])
  · have hk := hC.2.1.2.2.2.1
    refine ⟨by rw [h3 16 (by omega) (by omega)]; exact hk.1, by rw [h3 3 (by omega) (by omega)]; exact hk.2.1, by rw [h3 3 (by omega) (by omega)]; exact hk.2.2.1, fun c T e1 e2 => ?_⟩
    rw [h3 3 (by omega) (by omega)] at e1 e2
    exact tbl_ext (hk.2.2.2 c T e1 e2) (fun i _ => by rw [h3 4 (by omega) (by omega), h3 5 (by omega) (by omega), h3 6 (by omega) (by omega)]; exact ⟨rfl, rfl, rfl⟩) (fun a a1 a2 => h3 a (by omega) (by omega))
  · rw [h3 3 (by omega) (by omega)]; exact hC.2.1.2.2.2.2
end CPL2
theorem ent_eq {n : Nat} {sh : Nat → Nat × Nat} {I : Nat → Nat → Int} {P : Nat → Nat → Option Nat} {M : Nat → Nat → Int} {bc r rl : Nat} (hL : cLe n sh I P M bc r rl) {i a : Int} : (if ((0 ≤ i ∧ i < (bc : Int)) ∧ (0 ≤ a ∧ a < 4)) then I r (4 * i.toNat + a.toNat) else -1000000) = (if (0 ≤ i ∧ i < (bc : Int)) then mEn M i.toNat a else -1000000) := by
  by_cases hi0 : 0 ≤ i ∧ i < (bc : Int)
  · have hv := hL.2.2.2 i.toNat (by omega)
    rw [if_pos hi0]
    unfold mEn
    by_cases ha0 : 0 ≤ a ∧ a < 4
    · rw [if_pos ⟨hi0, ha0⟩]
      rcases (show a = 0 ∨ a = 1 ∨ a = 2 ∨ a = 3 by omega) with rfl | rfl | rfl | rfl
      · rw [if_pos rfl]; exact hv.1
      · rw [if_neg (by decide), if_pos rfl]; exact hv.2.1
      · rw [if_neg (by decide), if_neg (by decide), if_pos rfl]; exact hv.2.2.1
      · rw [if_neg (by decide), if_neg (by decide), if_neg (by decide), if_pos rfl]; exact hv.2.2.2
    · rw [if_neg (fun h => ha0 h.2), if_neg (by omega), if_neg (by omega), if_neg (by omega), if_neg (by omega)]
  · rw [if_neg (fun h => hi0 h.1), if_neg hi0]
