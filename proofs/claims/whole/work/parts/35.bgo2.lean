theorem yB.sick {n : Nat} {sh : Nat → Nat × Nat} {P : Nat → Nat → Option Nat} (h : yB n sh P) (v : Option Nat) : yB n sh (zpu P 17 2 v) := by
  refine ⟨h.1, h.2.1, fun j => ?_, fun j => ?_, fun j hj => ?_, fun j hj => ?_, fun j => ?_⟩
  · rw [zpu_ne (by decide)]; exact h.2.2.1 j
  · rw [zpu_ne (by decide)]; exact h.2.2.2.1 j
  · rw [zpu_ne (by decide)]; exact h.2.2.2.2.1 j hj
  · rw [zpu_eq]; simp only [show ¬ j = 2 by omega, if_false]; exact h.2.2.2.2.2.1 j hj
  · rw [zpu_ne (by decide)]; exact h.2.2.2.2.2.2 j
theorem yMb.sick {n : Nat} {sh : Nat → Nat × Nat} {P : Nat → Nat → Option Nat} {a : Nat} (h : yMb n sh P a) (v : Option Nat) : yMb n sh (zpu P 17 2 v) a := by
  have h1 := h.1
  unfold yMb
  rw [zpu_ne (show a ≠ 17 by omega)]
  exact h
theorem chn_sick {P : Nat → Nat → Option Nat} {v : Option Nat} : ∀ {L : List Nat} {o : Option Nat}, (∀ x, x ∈ L → x ≠ 17) → chn P o L → chn (zpu P 17 2 v) o L
  | [], _, _, h => h
  | x :: t, o, hx, h => ⟨h.1, by rw [zpu_ne (hx x List.mem_cons_self)]; exact chn_sick (fun y hy => hx y (List.mem_cons_of_mem _ hy)) h.2⟩
theorem sSt_none (jo : Nat → Int) (D : Nat) : sSt (fun _ => false) jo D = (-1, 0, 0) := sSt_const (x := 0) (Nat.zero_le D) (fun _ _ _ => rfl)
theorem isS_nil {I : Nat → Nat → Int} {q M : Nat} : isS I q M [] (fun _ => false) := fun d => ⟨fun h => (by cases h), fun h => (by obtain ⟨-, x, hx, -⟩ := h; cases hx)⟩
/-- Course's own slots between its runs -/
def cOk (I : Nat → Nat → Int) : Prop := (0 ≤ I 17 7 ∧ I 17 7 ≤ 400) ∧ (0 ≤ I 17 8 ∧ I 17 8 ≤ 800) ∧ (0 ≤ I 17 9 ∧ I 17 9 ≤ 1200) ∧ (I 17 11 = 0 ∨ I 17 11 = 1)
theorem cRg.ok {I0 I : Nat → Nat → Int} {a q j g M : Nat} {S : Nat → Bool} (h : cRg I0 I a q j g M S) : cOk I := ⟨h.2.2.2.2.1.1, h.2.2.2.2.1.2.1, h.2.2.2.2.1.2.2.1, h.2.2.2.2.2.2.2.1⟩
def gO1 (I : Nat → Nat → Int) (q : Int) : Nat → Nat → Int := zup (zup (zup (zup (zup I 17 3 q) 17 4 (-1)) 17 5 0) 17 6 0) 17 10 (-1)
theorem gO1_row {I : Nat → Nat → Int} {q : Int} {a : Nat} (h : a ≠ 17) : gO1 I q a = I a := by unfold gO1; rw [zup_ne h, zup_ne h, zup_ne h, zup_ne h, zup_ne h]
section BG2
variable {l : Launch} {E : zEnv} {n : Nat} {sh : Nat → Nat × Nat} {I : Nat → Nat → Int} {P : Nat → Nat → Option Nat}
set_option maxHeartbeats 4000000 in
set_option maxRecDepth 100000 in
theorem l40_X0_goOver (hB : yB n sh P) {a g M q j : Nat} (hMb : yMb n sh P a) (hg1 : g < n) (hg2 : sh g = (1, 301)) (hg3 : 17 < g ∧ g ≠ a ∧ g ≠ a + 1) (hM : M ≤ 2106) (hq3 : q ≤ 300) (hj : I a 2 = (j : Int)) (hj3 : j ≤ 300) (hO : ∀ w, w ≤ M / 7 → -2147483648 ≤ bAr I a w q j ∧ bAr I a w q j ≤ 2147483647) (hV : ∀ k w, k < 7 → w ≤ M / 7 → 0 ≤ bV I k w ∧ bV I k w ≤ 400) (hc : cOk I) {La : List Nat} (hgL : ∀ x, x ∈ La → x ≠ g) (hch : chn P (P a 8) La) (hsr : srt I La) (hpa : ∀ x, x ∈ La → yPp n sh I x) {I' : Nat → Nat → Int} (hR : cRg I I' a q j g M (fun _ => false)) : Z l E jX0_goOver (rm 4 92) (yE E 0 0 (fun v' n' sh' I' P' => v' = none ∧ n' = n ∧ sh' = sh ∧ P' = zpu P 17 2 (some a) ∧ ∃ S, cRg I I' a q j g M S ∧ isS I q M La S)) 0 0 (zw E n sh I' (zpu P 17 2 (some a))) 40 [(0, .ref (zb E + 17)), (1, .ref (zb E + a)), (2, .int (iI q)), (3, .int (iI M)), (4, .ref (zb E + g)), (5, .int (iI ((M / 7 : Nat) : Int)))] [] := by
  have hB1 := hB.sick (some a)
  have hMb1 := hMb.sick (some a)
  have hsi : (zpu P 17 2 (some a)) 17 2 = some a := by rw [zpu_eq]; rfl
  have ha17 : a ≠ 17 := by have := hMb.1; omega
  have hch1 : chn (zpu P 17 2 (some a)) (P a 8) La := chn_sick (fun x hx => by have := (hpa x hx).1; omega) hch
  have hfp1 : (zpu P 17 2 (some a)) a 8 = P a 8 := by rw [zpu_ne ha17]
  cases hfp0 : P a 8 with
  | none =>
    have hfp := hfp1.trans hfp0
    refine z_aload_n dX0_goOver_40 rfl ?_
    refine y_getN dX0_goOver_41 fX0_44 (by have := hMb.1; omega) hMb.2.1 rfl hfp ?_
    refine z_astoreN dX0_goOver_44 (by decide) ?_
    refine z_keys [0, 1, 2, 3, 4, 5, 6] ?_
    have h5 := l2_X0_goOver (l := l) (E := E) (K := (yE E 0 0 (fun v' n' sh' I' P' => v' = none ∧ n' = n ∧ sh' = sh ∧ P' = zpu P 17 2 (some a) ∧ ∃ S, cRg I I' a q j g M S ∧ isS I q M La S))) (lw := M / 7) hB1 hMb1 hsi hg1 hg2 hg3 hM hq3 hj hj3 hO hV hgL (fun I2 S2 hR2 hS2 => ?_) La [] (P a 8) I' (fun _ => false) rfl hch1 isS_nil hR (fun y hy => by cases hy) hsr hpa
    · rw [hfp0] at h5; exact h5
    · exact y_return dX0_goOver_136 rfl ⟨rfl, rfl, rfl, rfl, S2, hR2, hS2⟩
  | some y =>
    have hfp := hfp1.trans hfp0
    refine z_aload_n dX0_goOver_40 rfl ?_
    refine y_getR dX0_goOver_41 fX0_44 (by have := hMb.1; omega) hMb.2.1 rfl hfp ?_
    refine z_astore dX0_goOver_44 (by decide) ?_
    refine z_keys [0, 1, 2, 3, 4, 5, 6] ?_
    have h5 := l2_X0_goOver (l := l) (E := E) (K := (yE E 0 0 (fun v' n' sh' I' P' => v' = none ∧ n' = n ∧ sh' = sh ∧ P' = zpu P 17 2 (some a) ∧ ∃ S, cRg I I' a q j g M S ∧ isS I q M La S))) (lw := M / 7) hB1 hMb1 hsi hg1 hg2 hg3 hM hq3 hj hj3 hO hV hgL (fun I2 S2 hR2 hS2 => ?_) La [] (P a 8) I' (fun _ => false) rfl hch1 isS_nil hR (fun y hy => by cases hy) hsr hpa
    · rw [hfp0] at h5; exact h5
    · exact y_return dX0_goOver_136 rfl ⟨rfl, rfl, rfl, rfl, S2, hR2, hS2⟩
set_option maxHeartbeats 4000000 in
set_option maxRecDepth 100000 in
theorem l1_X0_goOver (hB : yB n sh P) {a g M q j : Nat} (hMb : yMb n sh P a) (hg1 : g < n) (hg2 : sh g = (1, 301)) (hg3 : 17 < g ∧ g ≠ a ∧ g ≠ a + 1) (hM : M ≤ 2106) (hq3 : q ≤ 300) (hj : I a 2 = (j : Int)) (hj3 : j ≤ 300) (hO : ∀ w, w ≤ M / 7 → -2147483648 ≤ bAr I a w q j ∧ bAr I a w q j ≤ 2147483647) (hV : ∀ k w, k < 7 → w ≤ M / 7 → 0 ≤ bV I k w ∧ bV I k w ≤ 400) (hc : cOk I) {La : List Nat} (hgL : ∀ x, x ∈ La → x ≠ g) (hch : chn P (P a 8) La) (hsr : srt I La) (hpa : ∀ x, x ∈ La → yPp n sh I x) : ∀ w : Nat, ∀ I' : Nat → Nat → Int, ((∀ x b, x ≠ g → I' x b = gO1 I (q : Int) x b) ∧ ∀ w', w' < w → I' g w' = 0) → w ≤ M / 7 + 1 → Z l E jX0_goOver (rm 4 92) (yE E 0 0 (fun v' n' sh' I' P' => v' = none ∧ n' = n ∧ sh' = sh ∧ P' = zpu P 17 2 (some a) ∧ ∃ S, cRg I I' a q j g M S ∧ isS I q M La S)) 0 0 (zw E n sh I' (zpu P 17 2 (some a))) 21 [(0, .ref (zb E + 17)), (1, .ref (zb E + a)), (2, .int (iI q)), (3, .int (iI M)), (4, .ref (zb E + g)), (5, .int (iI ((M / 7 : Nat) : Int))), (6, .int (iI w))] [] := by
  refine zloop (fun w : Nat => M / 7 + 1 - w) (fun w ih I' hI hw0 => ?_)
  refine z_iload dX0_goOver_21 rfl ?_
  refine z_iload dX0_goOver_23 rfl ?_
  refine z_icmp_gt 40 dX0_goOver_25 (by decide) (by omega) (by omega) (fun c_25 => ?_) (fun c_25 => ?_)
  · refine z_keys [0, 1, 2, 3, 4, 5] ?_
    have e17 : ∀ c, I' 17 c = gO1 I (q : Int) 17 c := fun c => hI.1 17 c (by omega)
    refine l40_X0_goOver hB hMb hg1 hg2 hg3 hM hq3 hj hj3 hO hV hc hgL hch hsr hpa ⟨fun x b hx hxg => by rw [hI.1 x b hxg, gO1_row hx], ?_, ?_, ?_, ⟨?_, ?_, ?_, ?_⟩, fun h => absurd (by rw [sSt_none]) h, Or.inl ?_, ?_, fun w' h1 h2 => ?_⟩
    · rw [e17]; simp [gO1, zup]
    · rw [e17, sSt_none]; simp [gO1, zup]
    · rw [e17, sSt_none]; simp [gO1, zup]
    · rw [e17]; simp [gO1, zup]; exact hc.1
    · rw [e17]; simp [gO1, zup]; exact hc.2.1
    · rw [e17]; simp [gO1, zup]; exact hc.2.2.1
    · rw [e17]; simp [gO1, zup]
    · rw [e17]; simp [gO1, zup]
    · rw [e17]; simp [gO1, zup]; exact hc.2.2.2
    · rw [hI.2 w' (by omega), sGr_0 (fun d => by decide)]
  · refine z_aload dX0_goOver_28 rfl ?_
    refine z_iload dX0_goOver_30 rfl ?_
    refine z_iconst dX0_goOver_32 ?_
    refine y_iastoreJ (w) dX0_goOver_33 hg1 hg2 (by omega) (by decide) ?_
    refine z_iinc dX0_goOver_34 rfl (by decide) ?_
    refine z_goto 21 dX0_goOver_37 (by decide) ?_
    refine z_keys [0, 1, 2, 3, 4, 5, 6] ?_
    refine ih (w + 1) (by omega) _ ⟨fun x b hx => by rw [zup_ne hx]; exact hI.1 x b hx, fun w' hw' => ?_⟩ (by omega)
    rw [zup_eq]
    by_cases e : w' = w
    · subst e; simp [zu]
    · simp only [zu, e, if_false]; exact hI.2 w' (by omega)
set_option maxHeartbeats 4000000 in
set_option maxRecDepth 100000 in
/-- goOver(of, q, lastDay, grants) -/
theorem c_X0_goOver (hB : yB n sh P) {a g M q j : Nat} (hMb : yMb n sh P a) (hg1 : g < n) (hg2 : sh g = (1, 301)) (hg3 : 17 < g ∧ g ≠ a ∧ g ≠ a + 1) (hM : M ≤ 2106) (hq3 : q ≤ 300) (hj : I a 2 = (j : Int)) (hj3 : j ≤ 300) (hO : ∀ w, w ≤ M / 7 → -2147483648 ≤ bAr I a w q j ∧ bAr I a w q j ≤ 2147483647) (hV : ∀ k w, k < 7 → w ≤ M / 7 → 0 ≤ bV I k w ∧ bV I k w ≤ 400) (hc : cOk I) {La : List Nat} (hgL : ∀ x, x ∈ La → x ≠ g) (hch : chn P (P a 8) La) (hsr : srt I La) (hpa : ∀ x, x ∈ La → yPp n sh I x) : yC l E jX0_goOver (rm 4 92) [.ref (zb E + 17), .ref (zb E + a), .int (iI q), .int (iI M), .ref (zb E + g)] n sh I P (fun v' n' sh' I' P' => v' = none ∧ n' = n ∧ sh' = sh ∧ P' = zpu P 17 2 (some a) ∧ ∃ S, cRg I I' a q j g M S ∧ isS I q M La S) := by
  refine yC_of (by decide) (Nat.le_of_ble_eq_true rfl) ?_
  refine z_aload_n dX0_goOver_0 rfl ?_
  refine z_aload_n dX0_goOver_1 rfl ?_
  refine z_iload_n dX0_goOver_2 rfl ?_
  refine y_callV dX0_goOver_3 kX0_34 (c_X0_begin (a := a) (q := (q : Int)) hB) (hB.lt (by decide)) (hB.2.1 17 (by decide)) rfl rfl rfl (Nat.le_of_ble_eq_true rfl) ⟨⟨by decide, by decide⟩, by decide, by decide⟩ (fun v3 n3 sh3 I3 P3 hp3 => ?_)
  obtain ⟨rfl, rfl, rfl, rfl, rfl⟩ := hp3
  refine z_iload_n dX0_goOver_6 rfl ?_
  refine z_bipush dX0_goOver_7 rfl ?_
  refine z_idiv dX0_goOver_9 (by omega) (by omega) ?_
  refine z_top (((M / 7 : Nat) : Int)) (by rw [Int.tdiv_eq_ediv_of_nonneg (by omega)]; omega) ?_
  refine z_sipush dX0_goOver_10 rfl ?_
  refine z_min dX0_goOver_13 mX0_38 (by omega) (by omega) (by decide) (Nat.le_of_ble_eq_true rfl) (by decide) (by decide) ?_
  refine z_top (((M / 7 : Nat) : Int)) (by omega) ?_
  refine z_istore dX0_goOver_16 (by decide) ?_
  refine z_iconst dX0_goOver_18 ?_
  refine z_istore dX0_goOver_19 (by decide) ?_
  refine z_keys [0, 1, 2, 3, 4, 5, 6] ?_
  exact l1_X0_goOver hB hMb hg1 hg2 hg3 hM hq3 hj hj3 hO hV hc hgL hch hsr hpa 0 _ ⟨fun _ _ _ => rfl, fun w' hw' => by omega⟩ (by omega)
end BG2
