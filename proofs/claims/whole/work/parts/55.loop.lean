set_option maxHeartbeats 4000000 in
set_option maxRecDepth 100000 in
theorem law_loop {l : Launch} {E : zEnv} {b : Nat} {nm : String} (hL : zxL E ≤ 3072) : ∀ c : Nat, ∀ (n : Nat) (sh : Nat → Nat × Nat) (I : Nat → Nat → Int) (P : Nat → Nat → Option Nat) (cells slots : Nat), LI n sh I P c cells slots → 6 * c ≤ zxL E → Z l E (jLw nm) room_1 (kLw E b) cells slots (zw E n sh I P) 18 [(0, .ref (zs E 3)), (1, .ref (zb E + 0)), (2, .ref (zb E + 24)), (3, .int (iI ((6 * c : Nat) : Int)))] [] := by
  refine zloop (fun c : Nat => 1000 - c) (fun c ih n sh I P cells slots hI h6 => ?_)
  have hcc : c ≤ 512 := by obtain ⟨-, -, t, mc, rc, pc, bc, ma, pa, Ls, r, rl, hO, -⟩ := hI; exact hO.2.1.2.2.2.2.2
  have hbd : cells ≤ 600000 ∧ slots ≤ 7302250 := by
    obtain ⟨-, -, t, mc, rc, pc, bc, ma, pa, Ls, r, rl, hO, hC, hb1, hb2⟩ := hI
    have hL5 := hC.2.2.2.2.2.2.2.2.2.1.2.2.1
    have hb3 : slots ≤ 1000000 := by split at hb2 <;> omega
    omega
  refine z_iload_n dL_law_18 rfl ?_
  refine z_aload_n dL_law_19 rfl ?_
  refine z_slen 3 dL_law_20 (by decide) ?_
  refine z_bipush dL_law_21 rfl ?_
  refine z_isub dL_law_23 ?_
  refine z_icmp_gt 875 dL_law_24 (by decide) (by omega) (by omega) (fun c_24 => ?_) (fun c_24 => ?_)
  · refine z_iconst dL_law_875 ?_
    exact z_lawend hbd.1 hbd.2
  · have hout : ∀ n' sh' I' P' cells' slots', LI n' sh' I' P' (c + 1) cells' slots' → Z l E (jLw nm) room_1 (kLw E b) cells' slots' (zw E n' sh' I' P') 869 [(0, .ref (zs E 3)), (1, .ref (zb E + 0)), (2, .ref (zb E + 24)), (3, .int (iI ((6 * c : Nat) : Int)))] [] := fun n' sh' I' P' cells' slots' hI' => by
      refine z_iinc dL_law_869 rfl (Nat.le_of_ble_eq_true rfl) ?_
      refine z_goto 18 dL_law_872 (by decide) ?_
      refine z_keys [0, 1, 2, 3] ?_
      have h5 := ih (c + 1) (by omega) n' sh' I' P' cells' slots' hI' (by omega)
      rw [show ((6 * (c + 1) : Nat) : Int) = ((6 * c : Nat) : Int) + 6 by omega] at h5
      exact h5
    refine z_aload_n dL_law_27 rfl ?_
    refine z_iload_n dL_law_28 rfl ?_
    refine z_sld 3 dL_law_29 (by decide) (by show 0 ≤ _ ∧ _ < ((zxL E : Nat) : Int); omega) (by omega) ?_
    refine z_bipush dL_law_30 rfl ?_
    refine z_iand dL_law_32 ?_
    generalize ((zsv E 3).2 ((6 * c : Nat) : Int).toNat &&& iI 31) = y
    have h7 : 6 * c + 6 ≤ zxL E := by omega
    have h8 : c + 1 ≤ 512 := by omega
    rcases (show (y.toInt < 0 ∨ 19 < y.toInt) ∨ y.toInt = 0 ∨ y.toInt = 1 ∨ y.toInt = 2 ∨ y.toInt = 3 ∨ y.toInt = 4 ∨ y.toInt = 5 ∨ y.toInt = 6 ∨ y.toInt = 7 ∨ y.toInt = 8 ∨ y.toInt = 9 ∨ y.toInt = 10 ∨ y.toInt = 11 ∨ y.toInt = 12 ∨ y.toInt = 13 ∨ y.toInt = 14 ∨ y.toInt = 15 ∨ y.toInt = 16 ∨ y.toInt = 17 ∨ y.toInt = 18 ∨ y.toInt = 19 by omega) with hy | hy | hy | hy | hy | hy | hy | hy | hy | hy | hy | hy | hy | hy | hy | hy | hy | hy | hy | hy | hy
    · refine z_tabOut 869 dL_law_33 hy (by decide) ?_
      obtain ⟨hB, hM, t, mc, rc, pc, bc, ma, pa, Ls, r, rl, hO, hC, hb1, hb2⟩ := hI
      exact hout _ _ _ _ _ _ ⟨hB, hM, t, mc, rc, pc, bc, ma, pa, Ls, r, rl, hO.up h8, hC, by omega, by omega⟩
    · exact z_tabIn 128 0 dL_law_33 hy (by decide) (by decide) rfl (by decide) (lc_join hI h7 h8 hout)
    · exact z_tabIn 161 1 dL_law_33 hy (by decide) (by decide) rfl (by decide) (lc_pay hI h7 h8 hout)
    · exact z_tabIn 194 2 dL_law_33 hy (by decide) (by decide) rfl (by decide) (lc_rule hI h7 h8 hout)
    · exact z_tabIn 237 3 dL_law_33 hy (by decide) (by decide) rfl (by decide) (lc_paper hI h7 h8 hout)
    · exact z_tabIn 280 4 dL_law_33 hy (by decide) (by decide) rfl (by decide) (lc_back hI h7 h8 hout)
    · exact z_tabIn 303 5 dL_law_33 hy (by decide) (by decide) rfl (by decide) (lc_week hI h7 h8 hout)
    · exact z_tabIn 316 6 dL_law_33 hy (by decide) (by decide) rfl (by decide) (lc_table hI h7 h8 hout)
    · exact z_tabIn 359 7 dL_law_33 hy (by decide) (by decide) rfl (by decide) (lc_force hI h7 h8 hout)
    · exact z_tabIn 402 8 dL_law_33 hy (by decide) (by decide) rfl (by decide) (lc_grant hI h7 h8 hout)
    · exact z_tabIn 445 9 dL_law_33 hy (by decide) (by decide) rfl (by decide) (lc_day hI h7 h8 hout)
    · exact z_tabIn 488 10 dL_law_33 hy (by decide) (by decide) rfl (by decide) (lc_arrears hI h7 h8 hout)
    · exact z_tabIn 531 11 dL_law_33 hy (by decide) (by decide) rfl (by decide) (lc_out hI h7 h8 hout)
    · exact z_tabIn 574 12 dL_law_33 hy (by decide) (by decide) rfl (by decide) (lc_what hI h7 h8 hout)
    · exact z_tabIn 637 13 dL_law_33 hy (by decide) (by decide) rfl (by decide) (lc_booked hI h7 h8 hout)
    · exact z_tabIn 670 14 dL_law_33 hy (by decide) (by decide) rfl (by decide) (lc_entry hI h7 h8 hout)
    · exact z_tabIn 703 15 dL_law_33 hy (by decide) (by decide) rfl (by decide) (lc_worth hI h7 h8 hout)
    · exact z_tabIn 747 16 dL_law_33 hy (by decide) (by decide) rfl (by decide) (lc_lodge hI h7 h8 hout)
    · exact z_tabIn 780 17 dL_law_33 hy (by decide) (by decide) rfl (by decide) (lc_member hI h7 h8 hout)
    · exact z_tabIn 813 18 dL_law_33 hy (by decide) (by decide) rfl (by decide) (lc_told hI h7 h8 hout)
    · exact z_tabIn 846 19 dL_law_33 hy (by decide) (by decide) rfl (by decide) (lc_count hI h7 h8 hout)
