/-- a chain of papers from o on -/
def chn (P : Nat → Nat → Option Nat) : Option Nat → List Nat → Prop
  | o, [] => o = none
  | o, x :: t => o = some x ∧ chn P (P x 5) t
def knX (I : Nat → Nat → Int) (q x : Nat) : Prop := I x 3 ≤ (q : Int) ∧ (I x 4 = -1 ∨ (q : Int) < I x 4)
/-- a paper at x -/
def yPp (n : Nat) (sh : Nat → Nat × Nat) (I : Nat → Nat → Int) (x : Nat) : Prop := (52 ≤ x ∧ x < n) ∧ sh x = (0, 3) ∧ (0 ≤ I x 1 ∧ I x 1 ≤ I x 2 ∧ I x 2 ≤ 2106) ∧ (0 ≤ I x 3 ∧ I x 3 ≤ 300) ∧ (-1 ≤ I x 4 ∧ I x 4 ≤ 300)
def srt (I : Nat → Nat → Int) : List Nat → Prop
  | [] => True
  | x :: t => (∀ y, y ∈ t → I x 1 ≤ I y 1) ∧ srt I t
/-- SICK by a list of papers, up to M -/
def skP (I : Nat → Nat → Int) (q : Nat) (L : List Nat) (d : Nat) : Prop := ∃ x, x ∈ L ∧ knX I q x ∧ I x 1 ≤ (d : Int) ∧ (d : Int) ≤ I x 2
/-- S holds just those up to M -/
def isS (I : Nat → Nat → Int) (q M : Nat) (L : List Nat) (S : Nat → Bool) : Prop := ∀ d, S d = true ↔ (d ≤ M ∧ skP I q L d)
theorem sSt_mem {S : Nat → Bool} {jo : Nat → Int} : ∀ {D : Nat}, ¬ (sSt S jo D).1 = -1 → ∃ d : Nat, d < D ∧ (sSt S jo D).1 = (d : Int) ∧ S d = true
  | 0, h => absurd rfl h
  | D + 1, h => by
    rw [sSt_succ] at h ⊢
    by_cases hs : S D = true
    · rw [if_pos hs]
      refine ⟨D, by omega, ?_, hs⟩
      split <;> rfl
    · rw [if_neg hs] at h ⊢
      obtain ⟨d, h1, h2, h3⟩ := sSt_mem h
      exact ⟨d, by omega, h2, h3⟩
theorem sSt_max {S : Nat → Bool} {jo : Nat → Int} : ∀ {D d : Nat}, d < D → S d = true → (d : Int) ≤ (sSt S jo D).1
  | 0, d, h, _ => absurd h (Nat.not_lt_zero d)
  | D + 1, d, h, hs => by
    rw [sSt_succ]
    by_cases hD : S D = true
    · rw [if_pos hD]
      split
      · show (d : Int) ≤ (D : Int); omega
      · show (d : Int) ≤ (D : Int); omega
    · rw [if_neg hD]
      have hne : d ≠ D := fun e => hD (e ▸ hs)
      exact sSt_max (by omega) hs
section BG
variable {l : Launch} {E : zEnv} {n : Nat} {sh : Nat → Nat × Nat} {I : Nat → Nat → Int} {P : Nat → Nat → Option Nat}
set_option maxHeartbeats 4000000 in
set_option maxRecDepth 100000 in
theorem l3_X0_goOver (hB : yB n sh P) {a g M q j : Nat} (hMb : yMb n sh P a) (hsi : P 17 2 = some a) (hg1 : g < n) (hg2 : sh g = (1, 301)) (hg3 : 17 < g ∧ g ≠ a ∧ g ≠ a + 1) (hM : M ≤ 2106) (hq3 : q ≤ 300) (hj : I a 2 = (j : Int)) (hj3 : j ≤ 300) (hO : ∀ w, w ≤ M / 7 → -2147483648 ≤ bAr I a w q j ∧ bAr I a w q j ≤ 2147483647) (hV : ∀ k w, k < 7 → w ≤ M / 7 → 0 ≤ bV I k w ∧ bV I k w ≤ 400) {K : zK} {x lo lw : Nat} {S : Nat → Bool} (hpp : yPp n sh I x) (hlo : lo ≤ 2107) (hout : ∀ I' S1, cRg I I' a q j g M S1 → (∀ y, S1 y = true ↔ (S y = true ∨ (lo ≤ y ∧ (y : Int) ≤ (min (I x 2) (M : Int))))) → Z l E jX0_goOver (rm 4 92) K 0 0 (zw E n sh I' P) 126 [(0, .ref (zb E + 17)), (1, .ref (zb E + a)), (2, .int (iI q)), (3, .int (iI M)), (4, .ref (zb E + g)), (5, .int (iI lw)), (6, .ref (zb E + x))] []) : ∀ d : Nat, ∀ I' S1, cRg I I' a q j g M S1 → (∀ y, d ≤ y → S1 y = false) → (∀ y, S1 y = true ↔ (S y = true ∨ (lo ≤ y ∧ y < d))) → (lo ≤ d ∧ ((d : Int) ≤ (min (I x 2) (M : Int)) + 1 ∨ d = lo)) → Z l E jX0_goOver (rm 4 92) K 0 0 (zw E n sh I' P) 87 [(0, .ref (zb E + 17)), (1, .ref (zb E + a)), (2, .int (iI q)), (3, .int (iI M)), (4, .ref (zb E + g)), (5, .int (iI lw)), (6, .ref (zb E + x)), (7, .int (iI (min (I x 2) (M : Int)))), (8, .int (iI d))] [] := by
  have hp3 := hpp.2.2.1
  refine zloop (fun d : Nat => M + 1 - d) (fun d ih I' S1 hR hS hSp hd0 => ?_)
  refine z_iload dX0_goOver_87 rfl ?_
  refine z_iload dX0_goOver_89 rfl ?_
  refine z_icmp_gt 126 dX0_goOver_91 (by decide) (by omega) (by omega) (fun c_91 => ?_) (fun c_91 => ?_)
  · refine z_keys [0, 1, 2, 3, 4, 5, 6] ?_
    exact hout I' S1 hR (fun y => (hSp y).trans (or_congr Iff.rfl ⟨fun h => ⟨h.1, by omega⟩, fun h => ⟨h.1, by omega⟩⟩))
  · have hst := sSt_rng S1 (bV I 5) (M + 1)
    have eAr : bAr I' a (d / 7) q j = bAr I a (d / 7) q j := by unfold bAr; rw [hR.1 16 _ (by omega) (by omega), hR.1 16 _ (by omega) (by omega), hR.1 (a + 1) _ (by have := hMb.1; omega) (by omega)]
    have eou : (bI (I' 15 (d / 7) * I' 9 (d / 7) < bAr I' a (d / 7) q j)) = (bI (bOu I a q j (d / 7) = true)) := by rw [bI_bOu, eAr, hR.1 15 _ (by omega) (by omega), hR.1 9 _ (by omega) (by omega)]
    refine z_aload_n dX0_goOver_94 rfl ?_
    refine z_iload dX0_goOver_95 rfl ?_
    refine y_callV dX0_goOver_97 kX0_65 (c_X0_goTo (I := I') (a := a) (d := d) (w := d / 7) (q := q) (j := j) hB hMb hsi (by omega) rfl hR.2.1 hq3 (by rw [hR.1 a 2 (by have := hMb.1; omega) (by omega)]; exact hj) hj3 (by rw [eAr]; exact hO (d / 7) (by omega)) (by have hh := hV 6 (d / 7) (by omega) (by omega); unfold bV at hh; rw [hR.1 15 _ (by omega) (by omega)]; exact hh) (by have hh := hV 0 (d / 7) (by omega) (by omega); unfold bV at hh; rw [hR.1 9 _ (by omega) (by omega)]; exact hh) (by rw [hR.2.2.2.1]; omega) (by rw [hR.2.2.1]; omega) (by have hh := hV 5 (d / 7) (by omega) (by omega); unfold bV at hh; rw [hR.1 14 _ (by omega) (by omega)]; exact hh) (by have hh := hV 1 (d / 7) (by omega) (by omega); unfold bV at hh; rw [hR.1 10 _ (by omega) (by omega)]; exact hh) (by have hh := hV 3 (d / 7) (by omega) (by omega); unfold bV at hh; rw [hR.1 12 _ (by omega) (by omega)]; exact hh) (by have hh := hV 4 (d / 7) (by omega) (by omega); unfold bV at hh; rw [hR.1 13 _ (by omega) (by omega)]; exact hh) (by have := hR.2.2.2.2.1; omega) (by have := hR.2.2.2.2.1; omega) (by have := hR.2.2.2.2.1; omega) (by rcases hR.2.2.2.2.2.2.1 with h | ⟨w0, h1, h2, _⟩ <;> omega) hR.2.2.2.2.2.2.2.1) (hB.lt (by decide)) (hB.2.1 17 (by decide)) rfl rfl rfl (Nat.le_of_ble_eq_true rfl) ⟨⟨by decide, by decide⟩, by decide, by decide⟩ (fun v97 n97 sh97 I97 P97 hp97 => ?_)
    obtain ⟨rfl, rfl, rfl, rfl, rfl⟩ := hp97
    rw [eou]
    have hstep := cRg_step hR hg3.1 (d := d) (by omega) hM hS hV
    refine z_aload dX0_goOver_100 rfl ?_
    refine z_iload dX0_goOver_102 rfl ?_
    refine z_bipush dX0_goOver_104 rfl ?_
    refine z_idiv dX0_goOver_106 (by omega) (by omega) ?_
    refine z_top (((d / 7 : Nat) : Int)) (by rw [Int.tdiv_eq_ediv_of_nonneg (by omega)]; omega) ?_
    refine z_dup2 dX0_goOver_107 rfl rfl ?_
    refine y_ialoadJ (d / 7) dX0_goOver_108 hg1 hg2 (by omega) (by decide) ?_
    refine z_top (I' g (d / 7)) (by rw [gT_row (by omega)]) ?_
    refine z_aload_n dX0_goOver_109 rfl ?_
    refine z_iload dX0_goOver_110 rfl ?_
    refine z_bipush dX0_goOver_112 rfl ?_
    refine z_idiv dX0_goOver_114 (by omega) (by omega) ?_
    refine z_top (((d / 7 : Nat) : Int)) (by rw [Int.tdiv_eq_ediv_of_nonneg (by omega)]; omega) ?_
    refine y_callV dX0_goOver_115 kX0_69 (c_X0_coins (I := (gT I' d (d / 7) (bI (bOu I a q j (d / 7) = true)))) (w := d / 7) hB (by omega) (by have h5 := hstep.1.2.2.2.2.1.2.2.2; rw [zup_ne (by omega)] at h5; exact h5) (by rw [gT_row (by decide), hR.1 11 _ (by omega) (by omega)]; exact hV 2 (d / 7) (by omega) (by omega))) (hB.lt (by decide)) (hB.2.1 17 (by decide)) rfl rfl rfl (Nat.le_of_ble_eq_true rfl) ⟨⟨by decide, by decide⟩, by decide, by decide⟩ (fun v115 n115 sh115 I115 P115 hp115 => ?_)
    obtain ⟨rfl, rfl, rfl, rfl, rfl⟩ := hp115
    refine z_top (coiN ((gT I' d (d / 7) (bI (bOu I a q j (d / 7) = true))) 17 5) (I 11 (d / 7))) (by rw [gT_row (a := 11) (by decide), hR.1 11 _ (by omega) (by omega)]) ?_
    refine z_iadd dX0_goOver_118 ?_
    refine y_iastoreJ (d / 7) dX0_goOver_119 hg1 hg2 (by omega) (by decide) ?_
    refine z_iinc dX0_goOver_120 rfl (by decide) ?_
    refine z_goto 87 dX0_goOver_123 (by decide) ?_
    refine z_keys [0, 1, 2, 3, 4, 5, 6, 7, 8] ?_
    refine ih (d + 1) (by omega) _ (addD S1 d) hstep.1 (fun y hy => by rw [addD_ne (by omega)]; exact hS y (by omega)) (fun y => ?_) ⟨by omega, by omega⟩
    by_cases e : y = d
    · subst e; rw [addD_eq]; exact ⟨fun _ => Or.inr ⟨by omega, by omega⟩, fun _ => rfl⟩
    · rw [addD_ne e, hSp y]; exact or_congr Iff.rfl ⟨fun h => ⟨h.1, by omega⟩, fun h => ⟨h.1, by omega⟩⟩
set_option maxHeartbeats 4000000 in
set_option maxRecDepth 100000 in
theorem l2_X0_goOver (hB : yB n sh P) {a g M q j : Nat} (hMb : yMb n sh P a) (hsi : P 17 2 = some a) (hg1 : g < n) (hg2 : sh g = (1, 301)) (hg3 : 17 < g ∧ g ≠ a ∧ g ≠ a + 1) (hM : M ≤ 2106) (hq3 : q ≤ 300) (hj : I a 2 = (j : Int)) (hj3 : j ≤ 300) (hO : ∀ w, w ≤ M / 7 → -2147483648 ≤ bAr I a w q j ∧ bAr I a w q j ≤ 2147483647) (hV : ∀ k w, k < 7 → w ≤ M / 7 → 0 ≤ bV I k w ∧ bV I k w ≤ 400) {K : zK} {lw : Nat} {La : List Nat} (hgL : ∀ x, x ∈ La → x ≠ g) (hout : ∀ I' S, cRg I I' a q j g M S → isS I q M La S → Z l E jX0_goOver (rm 4 92) K 0 0 (zw E n sh I' P) 136 [(0, .ref (zb E + 17)), (1, .ref (zb E + a)), (2, .int (iI q)), (3, .int (iI M)), (4, .ref (zb E + g)), (5, .int (iI lw))] []) : ∀ (L2 L1 : List Nat) (o : Option Nat) (I' : Nat → Nat → Int) (S : Nat → Bool), La = L1 ++ L2 → chn P o L2 → isS I q M L1 S → cRg I I' a q j g M S → (∀ y, y ∈ L1 → ∀ z, z ∈ L2 → I y 1 ≤ I z 1) → srt I L2 → (∀ x, x ∈ L2 → yPp n sh I x) → Z l E jX0_goOver (rm 4 92) K 0 0 (zw E n sh I' P) 46 [(0, .ref (zb E + 17)), (1, .ref (zb E + a)), (2, .int (iI q)), (3, .int (iI M)), (4, .ref (zb E + g)), (5, .int (iI lw)), (6, zrf E o)] [] := by
  intro L2
  induction L2 with
  | nil =>
    intro L1 o I' S hL hch hS0 hR hso hsr hpa
    have ho : o = none := hch
    subst ho
    refine z_aloadN dX0_goOver_46 rfl ?_
    refine z_ifnullN 136 dX0_goOver_48 (by decide) ?_
    refine z_keys [0, 1, 2, 3, 4, 5] ?_
    refine hout I' S hR ?_
    rw [hL, List.append_nil]
    exact hS0
  | cons x t ih =>
    intro L1 o I' S hL hch hS0 hR hso hsr hpa
    have ho : o = some x := hch.1
    subst ho
    have hpp := hpa x List.mem_cons_self
    have hp1 := hpp.1
    have hp3 := hpp.2.2.1
    have hp4 := hpp.2.2.2
    have hso2 : ∀ y, y ∈ L1 ++ [x] → ∀ z, z ∈ t → I y 1 ≤ I z 1 := by
      intro y hy z hz
      rcases List.mem_append.mp hy with h | h
      · exact hso y h z (List.mem_cons_of_mem _ hz)
      · rw [List.mem_singleton.mp h]; exact hsr.1 z hz
    have hnext : ∀ I2 S2, cRg I I2 a q j g M S2 → isS I q M (L1 ++ [x]) S2 → Z l E jX0_goOver (rm 4 92) K 0 0 (zw E n sh I2 P) 126 [(0, .ref (zb E + 17)), (1, .ref (zb E + a)), (2, .int (iI q)), (3, .int (iI M)), (4, .ref (zb E + g)), (5, .int (iI lw)), (6, .ref (zb E + x))] [] := by
      intro I2 S2 hR2 hS2
      cases hnx : P x 5 with
      | none =>
        refine z_aload dX0_goOver_126 rfl ?_
        refine y_getN dX0_goOver_128 fX0_72 hpp.1.2 hpp.2.1 rfl hnx ?_
        refine z_astoreN dX0_goOver_131 (by decide) ?_
        refine z_goto 46 dX0_goOver_133 (by decide) ?_
        refine z_keys [0, 1, 2, 3, 4, 5, 6] ?_
        have h5 := ih (L1 ++ [x]) (P x 5) I2 S2 (by rw [hL, List.append_assoc]; rfl) hch.2 hS2 hR2 hso2 hsr.2 (fun z hz => hpa z (List.mem_cons_of_mem _ hz))
        rw [hnx] at h5
        exact h5
      | some y =>
        refine z_aload dX0_goOver_126 rfl ?_
        refine y_getR dX0_goOver_128 fX0_72 hpp.1.2 hpp.2.1 rfl hnx ?_
        refine z_astore dX0_goOver_131 (by decide) ?_
        refine z_goto 46 dX0_goOver_133 (by decide) ?_
        refine z_keys [0, 1, 2, 3, 4, 5, 6] ?_
        have h5 := ih (L1 ++ [x]) (P x 5) I2 S2 (by rw [hL, List.append_assoc]; rfl) hch.2 hS2 hR2 hso2 hsr.2 (fun z hz => hpa z (List.mem_cons_of_mem _ hz))
        rw [hnx] at h5
        exact h5
    have hxg : x ≠ g := hgL x (by rw [hL]; exact List.mem_append_right _ List.mem_cons_self)
    have hst := sSt_rng S (bV I 5) (M + 1)
    refine z_aload dX0_goOver_46 rfl ?_
    refine z_ifnull dX0_goOver_48 ?_
    refine z_aload dX0_goOver_51 rfl ?_
    refine z_iload_n dX0_goOver_53 rfl ?_
    refine y_callV dX0_goOver_54 kX0_50 (c_X3_isKnownIn (I := I') (p := x) (q := (q : Int)) hpp.1.2 hpp.2.1 (by rw [hR.1 x 3 (by omega) hxg]; exact hp4.1) (by rw [hR.1 x 4 (by omega) hxg]; exact hp4.2) (by omega)) hpp.1.2 hpp.2.1 rfl rfl rfl (Nat.le_of_ble_eq_true rfl) ⟨⟨by decide, by decide⟩, by decide, by decide⟩ (fun v54 n54 sh54 I54 P54 hp54 => ?_)
    obtain ⟨rfl, rfl, rfl, rfl, rfl⟩ := hp54
    rw [hR.1 x 3 (by omega) hxg, hR.1 x 4 (by omega) hxg]
    refine z_if_eq 126 dX0_goOver_57 (by decide) (bI_rng _) (fun c_57 => ?_) (fun c_57 => ?_)
    · have c_57 := bI_0 c_57
      refine z_keys [0, 1, 2, 3, 4, 5, 6] ?_
      refine hnext I' S hR (fun d => (hS0 d).trans (and_congr Iff.rfl ⟨fun ⟨y, h1, h2⟩ => ⟨y, List.mem_append_left _ h1, h2⟩, fun ⟨y, h1, h2⟩ => ?_⟩))
      rcases List.mem_append.mp h1 with h | h
      · exact ⟨y, h, h2⟩
      · rw [List.mem_singleton.mp h] at h2; exact absurd h2.1 c_57
    · have c_57 := bI_1 c_57
      refine z_aload dX0_goOver_60 rfl ?_
      refine y_getI dX0_goOver_62 fX0_56 hpp.1.2 hpp.2.1 rfl ?_
      refine z_top (I x 2) (by rw [hR.1 x 2 (by omega) hxg]) ?_
      refine z_iload_n dX0_goOver_65 rfl ?_
      refine z_min dX0_goOver_66 mX0_38 (by omega) (by omega) (by decide) (Nat.le_of_ble_eq_true rfl) (by decide) (by decide) ?_
      refine z_istore dX0_goOver_69 (by decide) ?_
      refine z_aload dX0_goOver_71 rfl ?_
      refine y_getI dX0_goOver_73 fX0_59 hpp.1.2 hpp.2.1 rfl ?_
      refine z_top (I x 1) (by rw [hR.1 x 1 (by omega) hxg]) ?_
      refine z_aload_n dX0_goOver_76 rfl ?_
      refine y_getI dX0_goOver_77 fX0_27 (hB.lt (by decide)) (hB.2.1 17 (by decide)) rfl ?_
      refine z_top ((sSt S (bV I 5) (M + 1)).1) (hR.2.2.1) ?_
      refine z_iconst dX0_goOver_80 ?_
      refine z_iadd dX0_goOver_81 ?_
      refine z_max dX0_goOver_82 mX0_62 (by omega) (by omega) (by decide) (Nat.le_of_ble_eq_true rfl) (by decide) (by decide) ?_
      obtain ⟨lo, hlo⟩ : ∃ lo : Nat, max (I x 1) ((sSt S (bV I 5) (M + 1)).1 + 1) = (lo : Int) := ⟨(max (I x 1) ((sSt S (bV I 5) (M + 1)).1 + 1)).toNat, by omega⟩
      refine z_top (lo : Int) hlo ?_
      refine z_istore dX0_goOver_85 (by decide) ?_
      refine z_keys [0, 1, 2, 3, 4, 5, 6, 7, 8] ?_
      refine l3_X0_goOver hB hMb hsi hg1 hg2 hg3 hM hq3 hj hj3 hO hV (x := x) (lo := lo) (lw := lw) (S := S) hpp (by omega) (fun I2 S2 hR2 hS2 => hnext I2 S2 hR2 (fun d => ?_)) lo I' S hR (fun y hy => ?_) (fun y => ⟨Or.inl, fun h => h.elim id (fun h => by omega)⟩) ⟨by omega, Or.inr rfl⟩
      · rw [hS2 d]
        constructor
        · rintro (h | ⟨h1, h2⟩)
          · have h3 := (hS0 d).mp h
            obtain ⟨y, h4, h5⟩ := h3.2
            exact ⟨h3.1, y, List.mem_append_left _ h4, h5⟩
          · exact ⟨by omega, x, List.mem_append_right _ List.mem_cons_self, c_57, by omega, by omega⟩
        · rintro ⟨h1, y, h2, h3, h4, h5⟩
          rcases List.mem_append.mp h2 with h | h
          · exact Or.inl ((hS0 d).mpr ⟨h1, y, h, h3, h4, h5⟩)
          · rw [List.mem_singleton.mp h] at h3 h4 h5
            by_cases hl : lo ≤ d
            · exact Or.inr ⟨hl, by omega⟩
            · obtain ⟨d0, g1, g2, g3⟩ := sSt_mem (S := S) (jo := bV I 5) (D := M + 1) (by omega)
              obtain ⟨g4, y0, g5, g6, g7, g8⟩ := (hS0 d0).mp g3
              have g9 := hso y0 g5 x List.mem_cons_self
              exact Or.inl ((hS0 d).mpr ⟨h1, y0, g5, g6, by omega, by omega⟩)
      · cases hy2 : S y with
        | false => rfl
        | true =>
          have h1 := ((hS0 y).mp hy2).1
          have h2 := sSt_max (S := S) (jo := bV I 5) (D := M + 1) (d := y) (by omega) hy2
          omega
end BG
