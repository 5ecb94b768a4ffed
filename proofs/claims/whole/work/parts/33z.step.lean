theorem iff_if {p q : Prop} [Decidable p] [Decidable q] {α : Type} {x y : α} (h : p ↔ q) : (if p then x else y) = if q then x else y := by
  by_cases hp : p
  · rw [if_pos hp, if_pos (h.mp hp)]
  · rw [if_neg hp, if_neg (fun z => hp (h.mpr z))]
/-- one day more, by goTo and what it adds -/
theorem cRg_step {I0 I : Nat → Nat → Int} {a q j g M d : Nat} {S : Nat → Bool} (h : cRg I0 I a q j g M S) (hg : 17 < g) (hd : d ≤ M) (hM : M ≤ 2106) (hS : ∀ x, d ≤ x → S x = false) (hV : ∀ k w, k < 7 → w ≤ M / 7 → 0 ≤ bV I0 k w ∧ bV I0 k w ≤ 400) :
    cRg I0 (zup (gT I d (d / 7) (bI (bOu I0 a q j (d / 7) = true))) g (d / 7) (I g (d / 7) + coiN (gT I d (d / 7) (bI (bOu I0 a q j (d / 7) = true)) 17 5) (I0 11 (d / 7)))) a q j g M (addD S d) ∧ gT I d (d / 7) (bI (bOu I0 a q j (d / 7) = true)) 17 5 = sWh (addD S d) (bV I0) (bOu I0 a q j) d := by
  obtain ⟨hF, h3, h4, h6, hr, hth, ho, h11, hgr⟩ := h
  obtain ⟨J, hJ, e3, e4, e6, e7, e8, e9, e10, e11, e5⟩ := gT_slots I d (d / 7) (bI (bOu I0 a q j (d / 7) = true))
  obtain ⟨s1, s2, s3⟩ := addD_st (jo := bV I0 5) (M := M) hd hS
  have hsucc := sSt_succ (addD S d) (bV I0 5) d
  rw [if_pos addD_eq, s3, ← s2] at hsucc
  have hb := (sSt_rng S (bV I0 5) d).2.1
  rw [← s2] at hb
  have e14 : I 14 (d / 7) = bV I0 5 (d / 7) := hF 14 _ (by omega) (by omega)
  rw [h4, e14] at hJ
  -- is OUT
  have eo : gT I d (d / 7) (bI (bOu I0 a q j (d / 7) = true)) 17 11 = bI (bOu I0 a q j (d / 7) = true) := by
    rw [e11]
    by_cases hw : ((d / 7 : Nat) : Int) = I 17 10
    · rw [if_pos hw]
      rcases ho with ho | ⟨w0, _, ho1, ho2⟩
      · omega
      · rw [ho2, show w0 = d / 7 by omega]
    · rw [if_neg hw]
  -- the thresholds and the number of the day
  have key : J 17 6 + 1 = (sSt (addD S d) (bV I0 5) (d + 1)).2.2 ∧ J 17 7 = bV I0 1 (sSt (addD S d) (bV I0 5) (d + 1)).2.1 ∧ J 17 8 = bV I0 1 (sSt (addD S d) (bV I0 5) (d + 1)).2.1 + bV I0 3 (sSt (addD S d) (bV I0 5) (d + 1)).2.1 ∧ J 17 9 = bV I0 1 (sSt (addD S d) (bV I0 5) (d + 1)).2.1 + bV I0 3 (sSt (addD S d) (bV I0 5) (d + 1)).2.1 + bV I0 4 (sSt (addD S d) (bV I0 5) (d + 1)).2.1 ∧ (sSt (addD S d) (bV I0 5) (d + 1)).1 = (d : Int) := by
    rw [hsucc]
    by_cases hf : (sSt S (bV I0 5) (M + 1)).1 = -1 ∨ bV I0 5 (d / 7) < (d : Int) - (sSt S (bV I0 5) (M + 1)).1 - 1
    · rw [if_pos hf]
      rw [if_pos hf] at hJ
      have x1 : I 10 (d / 7) = bV I0 1 (d / 7) := hF 10 _ (by omega) (by omega)
      have x3 : I 12 (d / 7) = bV I0 3 (d / 7) := hF 12 _ (by omega) (by omega)
      have x4 : I 13 (d / 7) = bV I0 4 (d / 7) := hF 13 _ (by omega) (by omega)
      subst hJ
      refine ⟨by simp [bil, zup], by simp [bil, zup]; exact x1, by simp [bil, zup]; rw [x1, x3], by simp [bil, zup]; rw [x1, x3, x4], rfl⟩
    · rw [if_neg hf]
      rw [if_neg hf] at hJ
      have ht := hth (fun z => hf (Or.inl z))
      subst hJ
      exact ⟨by rw [h6], ht.1, ht.2.1, ht.2.2.1, rfl⟩
  obtain ⟨k6, k7, k8, k9, k4⟩ := key
  have hb2 := sSt_b (addD S d) (bV I0 5) d
  have v1 := hV 1 (sSt (addD S d) (bV I0 5) (d + 1)).2.1 (by omega) (by omega)
  have v3 := hV 3 (sSt (addD S d) (bV I0 5) (d + 1)).2.1 (by omega) (by omega)
  have v4 := hV 4 (sSt (addD S d) (bV I0 5) (d + 1)).2.1 (by omega) (by omega)
  have ewh : gT I d (d / 7) (bI (bOu I0 a q j (d / 7) = true)) 17 5 = sWh (addD S d) (bV I0) (bOu I0 a q j) d := by
    rw [e5, eo, k6, k7, k8, k9]
    unfold sWh
    rw [if_pos addD_eq]
    by_cases hob : bOu I0 a q j (d / 7) = true
    · rw [bI_t hob, if_neg (by decide), if_pos hob]
    · rw [bI_f hob, if_pos rfl, if_neg hob]
  have eco : coiN (gT I d (d / 7) (bI (bOu I0 a q j (d / 7) = true)) 17 5) (I0 11 (d / 7)) = sCo (addD S d) (bV I0) (bOu I0 a q j) d := by
    rw [e5, eo, k6, k7, k8, k9]
    unfold sCo
    rw [if_pos addD_eq]
    by_cases hob : bOu I0 a q j (d / 7) = true
    · rw [bI_t hob, if_neg (by decide), if_pos hob]; rfl
    · rw [bI_f hob, if_pos rfl, if_neg hob, coiN_nat5]; rfl
  have z17 : ∀ c, zup (gT I d (d / 7) (bI (bOu I0 a q j (d / 7) = true))) g (d / 7) (I g (d / 7) + coiN (gT I d (d / 7) (bI (bOu I0 a q j (d / 7) = true)) 17 5) (I0 11 (d / 7))) 17 c = gT I d (d / 7) (bI (bOu I0 a q j (d / 7) = true)) 17 c := fun c => by rw [zup_ne (by omega)]
  have n5 : 0 ≤ gT I d (d / 7) (bI (bOu I0 a q j (d / 7) = true)) 17 5 ∧ gT I d (d / 7) (bI (bOu I0 a q j (d / 7) = true)) 17 5 ≤ 5 := by
    rw [e5]
    split
    · unfold nat5
      split
      · omega
      · split
        · omega
        · split <;> omega
    · omega
  refine ⟨⟨fun x b hx hxg => ?_, ?_, ?_, ?_, ⟨?_, ?_, ?_, ?_⟩, fun _ => ⟨?_, ?_, ?_, ?_⟩, Or.inr ⟨d / 7, by omega, ?_, ?_⟩, ?_, fun w hw1 hw2 => ?_⟩, ewh⟩
  · rw [zup_ne hxg, gT_row hx]; exact hF x b hx hxg
  · rw [z17, e3]; exact h3
  · rw [z17, e4, s1, k4]
  · rw [z17, e6, s1]; exact k6
  · rw [z17, e7, k7]; omega
  · rw [z17, e8, k8]; omega
  · rw [z17, e9, k9]; omega
  · rw [z17]; exact n5
  · rw [z17, e7, s1]; exact k7
  · rw [z17, e8, s1]; exact k8
  · rw [z17, e9, s1]; exact k9
  · rw [z17, s1, k4]; exact ewh
  · rw [z17, e10]
  · rw [z17]; exact eo
  · rw [z17, eo]; exact bI_or _
  · rw [addD_gr hd hS, ← hgr w hw1 hw2, zup_eq]
    by_cases e : w = d / 7
    · subst e
      simp only [zu, if_true]
      rw [eco]
    · simp only [zu, e, if_false]
      rw [if_neg (Ne.symm e), gT_row (by omega)]
      omega
