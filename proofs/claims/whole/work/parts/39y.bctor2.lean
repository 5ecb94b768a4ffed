theorem p3_form (b : Nat) : p3 b = if b = 6 then some 16 else if b = 5 then some 8 else if b = 3 then some 7 else if b = 2 then some 6 else if b = 1 then some 5 else if b = 0 then some 4 else none := by
  by_cases h : b < 7
  · rcases (show b = 0 ∨ b = 1 ∨ b = 2 ∨ b = 3 ∨ b = 4 ∨ b = 5 ∨ b = 6 by omega) with rfl | rfl | rfl | rfl | rfl | rfl | rfl <;> rfl
  · rw [if_neg (show ¬ b = 6 by omega), if_neg (show ¬ b = 5 by omega), if_neg (show ¬ b = 3 by omega), if_neg (show ¬ b = 2 by omega), if_neg (show ¬ b = 1 by omega), if_neg (show ¬ b = 0 by omega)]
    unfold p3
    rw [List.getD_eq_getElem?_getD, List.getElem?_eq_none (by show 7 ≤ b; omega)]
    rfl
theorem p17_form (b : Nat) : p17 b = if b = 0 then some 3 else if b = 1 then some 18 else none := by
  by_cases h : b < 2
  · rcases (show b = 0 ∨ b = 1 by omega) with rfl | rfl <;> rfl
  · rw [if_neg (show ¬ b = 0 by omega), if_neg (show ¬ b = 1 by omega)]
    unfold p17
    rw [List.getD_eq_getElem?_getD, List.getElem?_eq_none (by show 2 ≤ b; omega)]
    rfl
theorem p21_form (b : Nat) : p21 b = if b = 1 then some 23 else if b = 0 then some 22 else none := by
  by_cases h : b < 2
  · rcases (show b = 0 ∨ b = 1 by omega) with rfl | rfl <;> rfl
  · rw [if_neg (show ¬ b = 1 by omega), if_neg (show ¬ b = 0 by omega)]
    unfold p21
    rw [List.getD_eq_getElem?_getD, List.getElem?_eq_none (by show 2 ≤ b; omega)]
    rfl
theorem p0_form (b : Nat) : p0 b = if b = 5 then some 21 else if b = 4 then some 19 else if b = 3 then some 17 else if b = 2 then some 3 else if b = 1 then some 2 else if b = 0 then some 1 else none := by
  by_cases h : b < 6
  · rcases (show b = 0 ∨ b = 1 ∨ b = 2 ∨ b = 3 ∨ b = 4 ∨ b = 5 by omega) with rfl | rfl | rfl | rfl | rfl | rfl <;> rfl
  · rw [if_neg (show ¬ b = 5 by omega), if_neg (show ¬ b = 4 by omega), if_neg (show ¬ b = 3 by omega), if_neg (show ¬ b = 2 by omega), if_neg (show ¬ b = 1 by omega), if_neg (show ¬ b = 0 by omega)]
    unfold p0
    rw [List.getD_eq_getElem?_getD, List.getElem?_eq_none (by show 6 ≤ b; omega)]
    rfl
section BCv
variable {l : Launch} {E : zEnv} {n : Nat} {sh : Nat → Nat × Nat} {I : Nat → Nat → Int} {P : Nat → Nat → Option Nat}
set_option maxHeartbeats 4000000 in
set_option maxRecDepth 100000 in
theorem c_X0_init (hs : sh 17 = (0, 0)) (hI : ∀ b, I 17 b = 0) (hP : ∀ b, P 17 b = none) : yC l E jX0_init ({ frames := 1, cells := 1, slots := 301, locals := 20 } : Room) [.ref (zb E + 17), .ref (zb E + 3)] 18 sh I P (fun v' n' sh' I' P' => v' = none ∧ n' = 19 ∧ mkd 17 19 sh I P sh' I' P') := by
  refine yC_of (by decide) (Nat.le_of_ble_eq_true rfl) ?_
  refine z_aload_n dX0_init_0 rfl ?_
  refine z_objInit dX0_init_1 oX0_3 zw_oi zw_oc (by decide) (Nat.le_of_ble_eq_true rfl) ?_
  refine z_aload_n dX0_init_4 rfl ?_
  refine z_sipush dX0_init_5 rfl ?_
  refine y_newai dX0_init_8 (by omega) (by decide) (by decide) ?_
  refine y_putFR dX0_init_10 fX0_9 rfl rfl (by omega) (by simp [zsh, hs]) rfl rfl rfl ?_
  refine z_aload_n dX0_init_13 rfl ?_
  refine z_aload_n dX0_init_14 rfl ?_
  refine y_putFR dX0_init_15 fX0_15 rfl rfl (by omega) (by simp [zsh, hs]) rfl rfl rfl ?_
  refine y_return dX0_init_18 rfl ?_
  refine ⟨rfl, rfl, fun x hx => ⟨?_, ?_, ?_⟩, fun x h1 h2 => ?_⟩
  · simp [zsh, show x ≠ 17 by omega, show x ≠ 18 by omega, show ¬ 17 ≤ x by omega, show ¬ 17 < x by omega, show ¬ 18 ≤ x by omega, show ¬ 18 < x by omega]
  · funext b; simp [zup, zcl, show x ≠ 17 by omega, show x ≠ 18 by omega, show ¬ 17 ≤ x by omega, show ¬ 17 < x by omega, show ¬ 18 ≤ x by omega, show ¬ 18 < x by omega]
  · funext b; simp [zpu, zcp, show x ≠ 17 by omega, show x ≠ 18 by omega, show ¬ 17 ≤ x by omega, show ¬ 17 < x by omega, show ¬ 18 ≤ x by omega, show ¬ 18 < x by omega]
  · rcases (show x = 17 ∨ x = 18 by omega) with rfl | rfl <;> exact ⟨by simp [zsh, shF, hs], fun b => ⟨by simp [zup, zcl, iF, hI], by simp [zpu, zcp, pF, p3_form, p17_form, p21_form, hP]⟩⟩
set_option maxHeartbeats 4000000 in
set_option maxRecDepth 100000 in
theorem c_X1_init (hs : sh 19 = (0, 1)) (hI : ∀ b, I 19 b = 0) (hP : ∀ b, P 19 b = none) : yC l E jX1_init ({ frames := 1, cells := 1, slots := 64, locals := 20 } : Room) [.ref (zb E + 19)] 20 sh I P (fun v' n' sh' I' P' => v' = none ∧ n' = 21 ∧ mkd 19 21 sh I P sh' I' P') := by
  refine yC_of (by decide) (Nat.le_of_ble_eq_true rfl) ?_
  refine z_aload_n dX1_init_0 rfl ?_
  refine z_objInit dX1_init_1 oX1_3 zw_oi zw_oc (by decide) (Nat.le_of_ble_eq_true rfl) ?_
  refine z_aload_n dX1_init_4 rfl ?_
  refine z_bipush dX1_init_5 rfl ?_
  refine y_newai dX1_init_7 (by omega) (by decide) (by decide) ?_
  refine y_putR dX1_init_9 fX1_11 (by omega) (by simp [zsh, hs]) rfl rfl rfl ?_
  refine y_return dX1_init_12 rfl ?_
  refine ⟨rfl, rfl, fun x hx => ⟨?_, ?_, ?_⟩, fun x h1 h2 => ?_⟩
  · simp [zsh, show x ≠ 19 by omega, show x ≠ 20 by omega, show ¬ 19 ≤ x by omega, show ¬ 19 < x by omega, show ¬ 20 ≤ x by omega, show ¬ 20 < x by omega]
  · funext b; simp [zup, zcl, show x ≠ 19 by omega, show x ≠ 20 by omega, show ¬ 19 ≤ x by omega, show ¬ 19 < x by omega, show ¬ 20 ≤ x by omega, show ¬ 20 < x by omega]
  · funext b; simp [zpu, zcp, show x ≠ 19 by omega, show x ≠ 20 by omega, show ¬ 19 ≤ x by omega, show ¬ 19 < x by omega, show ¬ 20 ≤ x by omega, show ¬ 20 < x by omega]
  · rcases (show x = 19 ∨ x = 20 by omega) with rfl | rfl <;> exact ⟨by simp [zsh, shF, hs], fun b => ⟨by simp [zup, zcl, iF, hI], by simp [zpu, zcp, pF, p3_form, p17_form, p21_form, hP]⟩⟩
set_option maxHeartbeats 4000000 in
set_option maxRecDepth 100000 in
theorem c_X4_init (hs : sh 3 = (0, 4)) (hI : ∀ b, I 3 b = 0) (hP : ∀ b, P 3 b = none) : yC l E jX4_init ({ frames := 1, cells := 13, slots := 3219, locals := 20 } : Room) [.ref (zb E + 3)] 4 sh I P (fun v' n' sh' I' P' => v' = none ∧ n' = 17 ∧ mkd 3 17 sh I P sh' I' P') := by
  refine yC_of (by decide) (Nat.le_of_ble_eq_true rfl) ?_
  refine z_aload_n dX4_init_0 rfl ?_
  refine z_objInit dX4_init_1 oX4_3 zw_oi zw_oc (by decide) (Nat.le_of_ble_eq_true rfl) ?_
  refine z_aload_n dX4_init_4 rfl ?_
  refine z_sipush dX4_init_5 rfl ?_
  refine y_newai dX4_init_8 (by omega) (by decide) (by decide) ?_
  refine y_putFR dX4_init_10 fX4_11 rfl rfl (by omega) (by simp [zsh, hs]) rfl rfl rfl ?_
  refine z_aload_n dX4_init_13 rfl ?_
  refine z_sipush dX4_init_14 rfl ?_
  refine y_newai dX4_init_17 (by omega) (by decide) (by decide) ?_
  refine y_putFR dX4_init_19 fX4_15 rfl rfl (by omega) (by simp [zsh, hs]) rfl rfl rfl ?_
  refine z_aload_n dX4_init_22 rfl ?_
  refine z_sipush dX4_init_23 rfl ?_
  refine y_newai dX4_init_26 (by omega) (by decide) (by decide) ?_
  refine y_putFR dX4_init_28 fX4_18 rfl rfl (by omega) (by simp [zsh, hs]) rfl rfl rfl ?_
  refine z_aload_n dX4_init_31 rfl ?_
  refine z_sipush dX4_init_32 rfl ?_
  refine y_newai dX4_init_35 (by omega) (by decide) (by decide) ?_
  refine y_putFR dX4_init_37 fX4_21 rfl rfl (by omega) (by simp [zsh, hs]) rfl rfl rfl ?_
  refine z_aload_n dX4_init_40 rfl ?_
  refine z_bipush dX4_init_41 rfl ?_
  refine z_sipush dX4_init_43 rfl ?_
  refine y_multi dX4_init_46 zwd1 (by decide) (by decide) ?_
  refine y_putFR dX4_init_50 fX4_26 rfl rfl (by omega) (by simp [zsh, hs]) rfl rfl rfl ?_
  refine z_aload_n dX4_init_53 rfl ?_
  refine z_sipush dX4_init_54 rfl ?_
  refine y_newai dX4_init_57 (by omega) (by decide) (by decide) ?_
  refine y_putFR dX4_init_59 fX4_29 rfl rfl (by omega) (by simp [zsh, hs]) rfl rfl rfl ?_
  refine z_aload_n dX4_init_62 rfl ?_
  refine z_iconst dX4_init_63 ?_
  refine y_putI dX4_init_64 fX4_32 (by omega) (by simp [zsh, hs]) rfl ?_
  refine z_aload_n dX4_init_67 rfl ?_
  refine z_iconst dX4_init_68 ?_
  refine y_putI dX4_init_69 fX4_36 (by omega) (by simp [zsh, hs]) rfl ?_
  refine y_return dX4_init_72 rfl ?_
  refine ⟨rfl, rfl, fun x hx => ⟨?_, ?_, ?_⟩, fun x h1 h2 => ?_⟩
  · simp [zsh, show x ≠ 3 by omega, show x ≠ 4 by omega, show x ≠ 5 by omega, show x ≠ 6 by omega, show x ≠ 7 by omega, show x ≠ 8 by omega, show x ≠ 9 by omega, show x ≠ 10 by omega, show x ≠ 11 by omega, show x ≠ 12 by omega, show x ≠ 13 by omega, show x ≠ 14 by omega, show x ≠ 15 by omega, show x ≠ 16 by omega, show ¬ 3 ≤ x by omega, show ¬ 3 < x by omega, show ¬ 4 ≤ x by omega, show ¬ 4 < x by omega, show ¬ 5 ≤ x by omega, show ¬ 5 < x by omega, show ¬ 6 ≤ x by omega, show ¬ 6 < x by omega, show ¬ 7 ≤ x by omega, show ¬ 7 < x by omega, show ¬ 8 ≤ x by omega, show ¬ 8 < x by omega, show ¬ 9 ≤ x by omega, show ¬ 9 < x by omega, show ¬ 10 ≤ x by omega, show ¬ 10 < x by omega, show ¬ 11 ≤ x by omega, show ¬ 11 < x by omega, show ¬ 12 ≤ x by omega, show ¬ 12 < x by omega, show ¬ 13 ≤ x by omega, show ¬ 13 < x by omega, show ¬ 14 ≤ x by omega, show ¬ 14 < x by omega, show ¬ 15 ≤ x by omega, show ¬ 15 < x by omega, show ¬ 16 ≤ x by omega, show ¬ 16 < x by omega]
  · funext b; simp [zup, zcl, show x ≠ 3 by omega, show x ≠ 4 by omega, show x ≠ 5 by omega, show x ≠ 6 by omega, show x ≠ 7 by omega, show x ≠ 8 by omega, show x ≠ 9 by omega, show x ≠ 10 by omega, show x ≠ 11 by omega, show x ≠ 12 by omega, show x ≠ 13 by omega, show x ≠ 14 by omega, show x ≠ 15 by omega, show x ≠ 16 by omega, show ¬ 3 ≤ x by omega, show ¬ 3 < x by omega, show ¬ 4 ≤ x by omega, show ¬ 4 < x by omega, show ¬ 5 ≤ x by omega, show ¬ 5 < x by omega, show ¬ 6 ≤ x by omega, show ¬ 6 < x by omega, show ¬ 7 ≤ x by omega, show ¬ 7 < x by omega, show ¬ 8 ≤ x by omega, show ¬ 8 < x by omega, show ¬ 9 ≤ x by omega, show ¬ 9 < x by omega, show ¬ 10 ≤ x by omega, show ¬ 10 < x by omega, show ¬ 11 ≤ x by omega, show ¬ 11 < x by omega, show ¬ 12 ≤ x by omega, show ¬ 12 < x by omega, show ¬ 13 ≤ x by omega, show ¬ 13 < x by omega, show ¬ 14 ≤ x by omega, show ¬ 14 < x by omega, show ¬ 15 ≤ x by omega, show ¬ 15 < x by omega, show ¬ 16 ≤ x by omega, show ¬ 16 < x by omega]
  · funext b; simp [zpu, zcp, show x ≠ 3 by omega, show x ≠ 4 by omega, show x ≠ 5 by omega, show x ≠ 6 by omega, show x ≠ 7 by omega, show x ≠ 8 by omega, show x ≠ 9 by omega, show x ≠ 10 by omega, show x ≠ 11 by omega, show x ≠ 12 by omega, show x ≠ 13 by omega, show x ≠ 14 by omega, show x ≠ 15 by omega, show x ≠ 16 by omega, show ¬ 3 ≤ x by omega, show ¬ 3 < x by omega, show ¬ 4 ≤ x by omega, show ¬ 4 < x by omega, show ¬ 5 ≤ x by omega, show ¬ 5 < x by omega, show ¬ 6 ≤ x by omega, show ¬ 6 < x by omega, show ¬ 7 ≤ x by omega, show ¬ 7 < x by omega, show ¬ 8 ≤ x by omega, show ¬ 8 < x by omega, show ¬ 9 ≤ x by omega, show ¬ 9 < x by omega, show ¬ 10 ≤ x by omega, show ¬ 10 < x by omega, show ¬ 11 ≤ x by omega, show ¬ 11 < x by omega, show ¬ 12 ≤ x by omega, show ¬ 12 < x by omega, show ¬ 13 ≤ x by omega, show ¬ 13 < x by omega, show ¬ 14 ≤ x by omega, show ¬ 14 < x by omega, show ¬ 15 ≤ x by omega, show ¬ 15 < x by omega, show ¬ 16 ≤ x by omega, show ¬ 16 < x by omega]
  · rcases (show x = 3 ∨ x = 4 ∨ x = 5 ∨ x = 6 ∨ x = 7 ∨ x = 8 ∨ x = 9 ∨ x = 10 ∨ x = 11 ∨ x = 12 ∨ x = 13 ∨ x = 14 ∨ x = 15 ∨ x = 16 by omega) with rfl | rfl | rfl | rfl | rfl | rfl | rfl | rfl | rfl | rfl | rfl | rfl | rfl | rfl <;> exact ⟨by simp [zsh, shF, hs], fun b => ⟨by simp [zup, zcl, iF, hI], by simp [zpu, zcp, pF, p3_form, p17_form, p21_form, hP]⟩⟩
set_option maxHeartbeats 4000000 in
set_option maxRecDepth 100000 in
theorem l_X5_init {sh0 : Nat → Nat × Nat} {I0 : Nat → Nat → Int} {P0 : Nat → Nat → Option Nat} (hs1 : sh 21 = (0, 5)) (hs2 : sh 22 = (1, 100)) (hs3 : sh 23 = (1, 100)) (hP : ∀ x b, 21 ≤ x → x < 24 → P x b = pF x b) (hP0 : P 21 0 = some 22) (hP1 : P 21 1 = some 23) (h21 : ∀ b, I 21 b = 0) (hO : ∀ x, x < 21 → sh x = sh0 x ∧ I x = I0 x ∧ P x = P0 x) : ∀ a : Nat, ∀ I' : Nat → Nat → Int, ((∀ x, x < 22 → I' x = I x) ∧ ∀ b, (I' 22 b = if b < a then iF 22 b else 0) ∧ (I' 23 b = if b < a then iF 23 b else 0)) → a ≤ 100 → Z l E jX5_init ({ frames := 1, cells := 2, slots := 200, locals := 20 } : Room) (yE E 2 200 (fun v' n' sh' I' P' => v' = none ∧ n' = 24 ∧ mkd 21 24 sh0 I0 P0 sh' I' P')) 2 200 (zw E 24 sh I' P) 22 [(0, .ref (zb E + 21)), (1, .int (iI a))] [] := by
  refine zloop (fun a : Nat => 100 - a) (fun a ih I' hI ha0 => ?_)
  refine z_iload_n dX5_init_22 rfl ?_
  refine z_bipush dX5_init_23 rfl ?_
  refine z_icmp_ge 57 dX5_init_25 (by decide) (by omega) (by omega) (fun c_25 => ?_) (fun c_25 => ?_)
  · refine y_return dX5_init_57 rfl ⟨rfl, rfl, fun x hx => ⟨(hO x hx).1, (hI.1 x (by omega)).trans (hO x hx).2.1, (hO x hx).2.2⟩, fun x h1 h2 => ?_⟩
    rcases (show x = 21 ∨ x = 22 ∨ x = 23 by omega) with rfl | rfl | rfl
    · refine ⟨hs1, fun b => ⟨?_, hP 21 b (by omega) (by omega)⟩⟩
      rw [hI.1 21 (by omega), h21 b]; rfl
    · refine ⟨hs2, fun b => ⟨?_, hP 22 b (by omega) (by omega)⟩⟩
      rw [(hI.2 b).1]
      by_cases hb : b < a
      · rw [if_pos hb]
      · rw [if_neg hb]; unfold iF; rw [if_neg (by omega), if_pos rfl, if_neg (by omega)]
    · refine ⟨hs3, fun b => ⟨?_, hP 23 b (by omega) (by omega)⟩⟩
      rw [(hI.2 b).2]
      by_cases hb : b < a
      · rw [if_pos hb]
      · rw [if_neg hb]; unfold iF; rw [if_neg (by omega), if_neg (by decide), if_pos rfl, if_neg (by omega)]
  · refine z_aload_n dX5_init_28 rfl ?_
    refine y_getR dX5_init_29 fX5_9 (by omega) hs1 rfl hP0 ?_
    refine z_iload_n dX5_init_32 rfl ?_
    refine z_sipush dX5_init_33 rfl ?_
    refine z_bipush dX5_init_36 rfl ?_
    refine z_iload_n dX5_init_38 rfl ?_
    refine z_imul dX5_init_39 ?_
    refine z_isub dX5_init_40 ?_
    refine y_iastoreJ (a) dX5_init_41 (by omega) hs2 (by omega) (by decide) ?_
    refine z_aload_n dX5_init_42 rfl ?_
    refine y_getR dX5_init_43 fX5_13 (by omega) hs1 rfl hP1 ?_
    refine z_iload_n dX5_init_46 rfl ?_
    refine z_iload_n dX5_init_47 rfl ?_
    refine z_iconst dX5_init_48 ?_
    refine z_idiv dX5_init_49 (by omega) (by omega) ?_
    refine z_top (((a / 4 : Nat) : Int)) (by rw [Int.tdiv_eq_ediv_of_nonneg (by omega)]; omega) ?_
    refine y_iastoreJ (a) dX5_init_50 (by omega) hs3 (by omega) (by decide) ?_
    refine z_iinc dX5_init_51 rfl (by decide) ?_
    refine z_goto 22 dX5_init_54 (by decide) ?_
    refine z_keys [0, 1] ?_
    refine ih (a + 1) (by omega) _ ⟨fun x hx => ?_, fun b => ⟨?_, ?_⟩⟩ (by omega)
    · rw [zup_ne (by omega), zup_ne (by omega)]; exact hI.1 x hx
    · rw [zup_ne (by decide), zup_eq]
      simp only [zu]
      by_cases e : b = a
      · rw [if_pos e, if_pos (by omega), e]; unfold iF; simp; omega
      · rw [if_neg e, (hI.2 b).1]; exact iff_if (by omega)
    · rw [zup_eq]
      simp only [zu]
      by_cases e : b = a
      · rw [if_pos e, if_pos (by omega), e]; unfold iF; simp; omega
      · rw [if_neg e, zup_ne (by decide), (hI.2 b).2]; exact iff_if (by omega)
set_option maxHeartbeats 4000000 in
set_option maxRecDepth 100000 in
theorem c_X5_init (hs : sh 21 = (0, 5)) (hI : ∀ b, I 21 b = 0) (hP : ∀ b, P 21 b = none) : yC l E jX5_init ({ frames := 1, cells := 2, slots := 200, locals := 20 } : Room) [.ref (zb E + 21)] 22 sh I P (fun v' n' sh' I' P' => v' = none ∧ n' = 24 ∧ mkd 21 24 sh I P sh' I' P') := by
  refine yC_of (by decide) (Nat.le_of_ble_eq_true rfl) ?_
  refine z_aload_n dX5_init_0 rfl ?_
  refine z_objInit dX5_init_1 oX5_1 zw_oi zw_oc (by decide) (Nat.le_of_ble_eq_true rfl) ?_
  refine z_aload_n dX5_init_4 rfl ?_
  refine z_bipush dX5_init_5 rfl ?_
  refine y_newai dX5_init_7 (by omega) (by decide) (by decide) ?_
  refine y_putFR dX5_init_9 fX5_9 rfl rfl (by omega) (by simp [zsh, hs]) rfl rfl rfl ?_
  refine z_aload_n dX5_init_12 rfl ?_
  refine z_bipush dX5_init_13 rfl ?_
  refine y_newai dX5_init_15 (by omega) (by decide) (by decide) ?_
  refine y_putFR dX5_init_17 fX5_13 rfl rfl (by omega) (by simp [zsh, hs]) rfl rfl rfl ?_
  refine z_iconst dX5_init_20 ?_
  refine z_istore_n dX5_init_21 (by decide) ?_
  refine z_keys [0, 1] ?_
  refine z_widen (c2 := 2) (s2 := 200) (by decide) (by decide) ?_
  refine l_X5_init (by simp [zsh, hs]) (by simp [zsh]) (by simp [zsh]) (fun x b h1 h2 => ?_) (by simp [zpu, zcp]) (by simp [zpu, zcp]) (fun b => by simp [zcl, hI]) (fun x hx => ⟨?_, ?_, ?_⟩) 0 _ ⟨fun x hx => rfl, fun b => ⟨by simp [zcl], by simp [zcl]⟩⟩ (by omega)
  · rcases (show x = 21 ∨ x = 22 ∨ x = 23 by omega) with rfl | rfl | rfl <;> simp [zpu, zcp, pF, p21_form, hP]
  · simp [zsh, show x ≠ 22 by omega, show x ≠ 23 by omega]
  · funext b; simp [zcl, show x ≠ 22 by omega, show x ≠ 23 by omega]
  · funext b; simp [zpu, zcp, show x ≠ 21 by omega, show x ≠ 22 by omega, show x ≠ 23 by omega]
set_option maxHeartbeats 4000000 in
set_option maxRecDepth 100000 in
/-- BreadBox() -/
theorem c_X6_init (hs : sh 0 = (0, 6)) (hI : ∀ b, I 0 b = 0) (hP : ∀ b, P 0 b = none) : yC l E jX6_init ({ frames := 2, cells := 23, slots := 4049, locals := 41 } : Room) [.ref (zb E + 0)] 1 sh I P (fun v' n' sh' I' P' => v' = none ∧ n' = 24 ∧ ∀ x, x < 24 → sh' x = shF x ∧ ∀ b, I' x b = iF x b ∧ (x ≠ 0 → P' x b = pF x b) ∧ (x = 0 → P' x b = p0 b)) := by
  refine yC_of (by decide) (Nat.le_of_ble_eq_true rfl) ?_
  refine z_aload_n dX6_init_0 rfl ?_
  refine z_objInit dX6_init_1 oX6_3 zw_oi zw_oc (by decide) (Nat.le_of_ble_eq_true rfl) ?_
  refine z_aload_n dX6_init_4 rfl ?_
  refine z_bipush dX6_init_5 rfl ?_
  refine y_anewa (t := 0) (C0 := RX2) dX6_init_7 zwd2 rfl (fun U h => h.2.2.2.2.1) (by decide) (by decide) (by decide) ?_
  refine y_putFR dX6_init_10 fX6_11 rfl rfl (by omega) (by simp [zsh, hs]) rfl rfl rfl ?_
  refine z_aload_n dX6_init_13 rfl ?_
  refine z_sipush dX6_init_14 rfl ?_
  refine y_anewa (t := 1) (C0 := RX3) dX6_init_17 zwd3 rfl (fun U h => h.2.2.2.2.2.1) (by decide) (by decide) (by decide) ?_
  refine y_putFR dX6_init_20 fX6_17 rfl rfl (by omega) (by simp [zsh, hs]) rfl rfl rfl ?_
  refine z_aload_n dX6_init_23 rfl ?_
  refine y_new dX6_init_24 cX6_21 rfl (by decide) (by decide) ?_
  refine z_dup dX6_init_27 rfl ?_
  refine y_callIN (host := RX6) (k := 3) (As := []) dX6_init_28 nX4_init (fun U h => h.2.2.2.1.1) (c_X4_init (by simp [zsh]) (fun b => by simp [zcl]) (fun b => by simp [zpu, zcp])) rfl rfl (Nat.le_of_ble_eq_true rfl) ⟨⟨by decide, by decide⟩, by decide, by decide⟩ (fun v28 n28 sh28 I28 P28 hp28 => ?_)
  obtain ⟨rfl, rfl, ha1, hb1⟩ := hp28
  refine y_putFR dX6_init_31 fX6_24 rfl rfl (by omega) (by rw [(ha1 0 (by omega)).1]; simp [zsh, hs]) rfl rfl rfl ?_
  refine z_aload_n dX6_init_34 rfl ?_
  refine y_new dX6_init_35 cX6_28 rfl (by decide) (by decide) ?_
  refine z_dup dX6_init_38 rfl ?_
  refine z_aload_n dX6_init_39 rfl ?_
  refine y_getR dX6_init_40 fX6_24 (by omega) (by rw [zsh, if_neg (by decide), (ha1 0 (by omega)).1]; simp [zsh, hs]) rfl (q := 3) (by simp [zpu, zcp]) ?_
  refine y_callI dX6_init_43 kX6_30 (c_X0_init (by simp [zsh]) (fun b => by simp [zcl]) (fun b => by simp [zcp])) rfl rfl (Nat.le_of_ble_eq_true rfl) ⟨⟨by decide, by decide⟩, by decide, by decide⟩ (fun v43 n43 sh43 I43 P43 hp43 => ?_)
  obtain ⟨rfl, rfl, ha2, hb2⟩ := hp43
  refine y_putFR dX6_init_46 fX6_33 rfl rfl (by omega) (by rw [(ha2 0 (by omega)).1, zsh, if_neg (by decide), (ha1 0 (by omega)).1]; simp [zsh, hs]) rfl rfl rfl ?_
  refine z_aload_n dX6_init_49 rfl ?_
  refine y_new dX6_init_50 cX6_37 rfl (by decide) (by decide) ?_
  refine z_dup dX6_init_53 rfl ?_
  refine y_callIN (host := RX6) (k := 19) (As := []) dX6_init_54 nX1_init (fun U h => h.2.2.2.1.2.1) (c_X1_init (by simp [zsh]) (fun b => by simp [zcl]) (fun b => by simp [zcp])) rfl rfl (Nat.le_of_ble_eq_true rfl) ⟨⟨by decide, by decide⟩, by decide, by decide⟩ (fun v54 n54 sh54 I54 P54 hp54 => ?_)
  obtain ⟨rfl, rfl, ha3, hb3⟩ := hp54
  refine y_putFR dX6_init_57 fX6_40 rfl rfl (by omega) (by rw [(ha3 0 (by omega)).1, zsh, if_neg (by decide), (ha2 0 (by omega)).1, zsh, if_neg (by decide), (ha1 0 (by omega)).1]; simp [zsh, hs]) rfl rfl rfl ?_
  refine z_aload_n dX6_init_60 rfl ?_
  refine y_new dX6_init_61 cX6_44 rfl (by decide) (by decide) ?_
  refine z_dup dX6_init_64 rfl ?_
  refine y_callI dX6_init_65 kX6_46 (c_X5_init (by simp [zsh]) (fun b => by simp [zcl]) (fun b => by simp [zcp])) rfl rfl (Nat.le_of_ble_eq_true rfl) ⟨⟨by decide, by decide⟩, by decide, by decide⟩ (fun v65 n65 sh65 I65 P65 hp65 => ?_)
  obtain ⟨rfl, rfl, ha4, hb4⟩ := hp65
  refine y_putFR dX6_init_68 fX6_47 rfl rfl (by omega) (by rw [(ha4 0 (by omega)).1, zsh, if_neg (by decide), (ha3 0 (by omega)).1, zsh, if_neg (by decide), (ha2 0 (by omega)).1, zsh, if_neg (by decide), (ha1 0 (by omega)).1]; simp [zsh, hs]) rfl rfl rfl ?_
  refine z_widen (c2 := 23) (s2 := 4049) (by decide) (by decide) ?_
  refine y_return dX6_init_71 rfl ⟨rfl, rfl, fun x hx => ?_⟩
  -- each cell by the call that made it
  by_cases h21 : 21 ≤ x
  · exact ⟨(hb4 x h21 hx).1, fun b => ⟨((hb4 x h21 hx).2 b).1, fun hx0 => by rw [zpu_ne hx0]; exact ((hb4 x h21 hx).2 b).2, fun h0 => absurd h0 (by omega)⟩⟩
  obtain ⟨a41, a42, a43⟩ := ha4 x (by omega)
  by_cases h19 : 19 ≤ x
  · refine ⟨?_, fun b => ⟨?_, fun hx0 => ?_, fun h0 => absurd h0 (by omega)⟩⟩
    · rw [a41, zsh, if_neg (by omega)]; exact (hb3 x h19 (by omega)).1
    · rw [a42, zcl, if_neg (by omega)]; exact ((hb3 x h19 (by omega)).2 b).1
    · rw [zpu_ne hx0, a43, zcp, if_neg (by omega), zpu_ne hx0]; exact ((hb3 x h19 (by omega)).2 b).2
  obtain ⟨a31, a32, a33⟩ := ha3 x (by omega)
  by_cases h17 : 17 ≤ x
  · refine ⟨?_, fun b => ⟨?_, fun hx0 => ?_, fun h0 => absurd h0 (by omega)⟩⟩
    · rw [a41, zsh, if_neg (by omega), a31, zsh, if_neg (by omega)]; exact (hb2 x h17 (by omega)).1
    · rw [a42, zcl, if_neg (by omega), a32, zcl, if_neg (by omega)]; exact ((hb2 x h17 (by omega)).2 b).1
    · rw [zpu_ne hx0, a43, zcp, if_neg (by omega), zpu_ne hx0, a33, zcp, if_neg (by omega), zpu_ne hx0]; exact ((hb2 x h17 (by omega)).2 b).2
  obtain ⟨a21, a22, a23⟩ := ha2 x (by omega)
  by_cases h3 : 3 ≤ x
  · refine ⟨?_, fun b => ⟨?_, fun hx0 => ?_, fun h0 => absurd h0 (by omega)⟩⟩
    · rw [a41, zsh, if_neg (by omega), a31, zsh, if_neg (by omega), a21, zsh, if_neg (by omega)]; exact (hb1 x h3 (by omega)).1
    · rw [a42, zcl, if_neg (by omega), a32, zcl, if_neg (by omega), a22, zcl, if_neg (by omega)]; exact ((hb1 x h3 (by omega)).2 b).1
    · rw [zpu_ne hx0, a43, zcp, if_neg (by omega), zpu_ne hx0, a33, zcp, if_neg (by omega), zpu_ne hx0, a23, zcp, if_neg (by omega), zpu_ne hx0]; exact ((hb1 x h3 (by omega)).2 b).2
  obtain ⟨a11, a12, a13⟩ := ha1 x (by omega)
  refine ⟨?_, fun b => ⟨?_, fun hx0 => ?_, fun h0 => ?_⟩⟩
  · rw [a41, zsh, if_neg (by omega), a31, zsh, if_neg (by omega), a21, zsh, if_neg (by omega), a11, zsh, if_neg (by omega)]
    rcases (show x = 0 ∨ x = 1 ∨ x = 2 by omega) with rfl | rfl | rfl <;> simp [zsh, hs, shF]
  · rw [a42, zcl, if_neg (by omega), a32, zcl, if_neg (by omega), a22, zcl, if_neg (by omega), a12, zcl, if_neg (by omega)]
    rcases (show x = 0 ∨ x = 1 ∨ x = 2 by omega) with rfl | rfl | rfl <;> simp [zcl, hI, iF]
  · rw [zpu_ne hx0, a43, zcp, if_neg (by omega), zpu_ne hx0, a33, zcp, if_neg (by omega), zpu_ne hx0, a23, zcp, if_neg (by omega), zpu_ne hx0, a13, zcp, if_neg (by omega)]
    rcases (show x = 1 ∨ x = 2 by omega) with rfl | rfl <;> simp [zpu, zcp, pF]
  · subst h0
    simp only [zpu, zcp]
    rw [a43]; simp only [zcp, zpu]; rw [a33]; simp only [zcp, zpu]; rw [a23]; simp only [zcp, zpu]; rw [a13]
    simp [zpu, zcp, hP, p0_form]
end BCv
