section BNst
variable {l : Launch} {E : zEnv} {J : zM} {R : Room} {K : zK} {cells slots : Nat} {pc : Nat} {L : List (Nat × Value)} {st : List Value} {n : Nat} {sh : Nat → Nat × Nat} {I : Nat → Nat → Int} {P : Nat → Nat → Option Nat}
theorem y_callSN {J2 : zM} {rm : Room} {As : List Value} {idx a : Nat} {host : String} {st0 : List Value} {post2 : Option Value → Nat → (Nat → Nat × Nat) → (Nat → Nat → Int) → (Nat → Nat → Option Nat) → Prop} (hd : decode J.2.1 pc = .ok (.invokestatic idx, 3)) (hc : zcaN 1 J2 a) (hw : ∀ U, zG E U → va_Nw (.methodLinkNest J.1.cls idx J2.1 host) U) (hM : yC l E J2 rm As n sh I P post2) (hn : As.length = a) (hst : As.reverse ++ st = st0) (h8 : (st.map fun v => v.category).sum ≤ 8) (hR : zfit R rm J2.2.2.1 cells slots)
    (kk : ∀ (v : Option Value) (n' : Nat) (sh' : Nat → Nat × Nat) (I' : Nat → Nat → Int) (P' : Nat → Nat → Option Nat), post2 v n' sh' I' P' → Z l E J R K (cells + rm.cells) (slots + rm.slots) (zw E n' sh' I' P') (pc + 3) L (v.toList ++ st)) : Z l E J R K cells slots (zw E n sh I P) pc L st0 :=
  z_callSN hd hc hw hM hn hst h8 hR (fun v ws' ⟨n', sh', I', P', e, hp⟩ => by subst e; exact kk v n' sh' I' P' hp)
theorem y_callIN {J2 : zM} {rm : Room} {As : List Value} {idx a k : Nat} {host : String} {st0 : List Value} {post2 : Option Value → Nat → (Nat → Nat × Nat) → (Nat → Nat → Int) → (Nat → Nat → Option Nat) → Prop} (hd : decode J.2.1 pc = .ok (.invokespecial idx, 3)) (hc : zcaN 2 J2 a) (hw : ∀ U, zG E U → va_Nw (.methodLinkNest J.1.cls idx J2.1 host) U) (hM : yC l E J2 rm (.ref (zb E + k) :: As) n sh I P post2) (hn : As.length = a) (hst : As.reverse ++ .ref (zb E + k) :: st = st0) (h8 : (st.map fun v => v.category).sum ≤ 8) (hR : zfit R rm J2.2.2.1 cells slots)
    (kk : ∀ (v : Option Value) (n' : Nat) (sh' : Nat → Nat × Nat) (I' : Nat → Nat → Int) (P' : Nat → Nat → Option Nat), post2 v n' sh' I' P' → Z l E J R K (cells + rm.cells) (slots + rm.slots) (zw E n' sh' I' P') (pc + 3) L (v.toList ++ st)) : Z l E J R K cells slots (zw E n sh I P) pc L st0 :=
  z_callIN hd hc hw hM hn hst h8 hR (fun v ws' ⟨n', sh', I', P', e, hp⟩ => by subst e; exact kk v n' sh' I' P' hp)
end BNst
theorem latest_day {S : Nat → Bool} {jo : Nat → Int} {d : Nat} (h : ∀ x, S x = true → x ≤ d) : ((sSt S jo (d + 1)).1 = (d : Int)) ↔ S d = true := by
  constructor
  · intro h1
    obtain ⟨x, h2, h3, h4⟩ := sSt_mem (S := S) (jo := jo) (D := d + 1) (by omega)
    rw [show d = x by omega]; exact h4
  · intro h1
    rw [sSt_succ, if_pos h1]
    split <;> rfl
section BA
variable {l : Launch} {E : zEnv} {n : Nat} {sh : Nat → Nat × Nat} {I : Nat → Nat → Int} {P : Nat → Nat → Option Nat}
set_option maxHeartbeats 4000000 in
set_option maxRecDepth 100000 in
theorem c_X6_lastDayOf {w : Int} : yC l E jX6_lastDayOf (rm 0 0) [.int (iI w)] n sh I P (yR (some (.int (iI (7 * w + 7 - 1)))) n sh (I) P) := by
  refine yC_of (by decide) (Nat.le_of_ble_eq_true rfl) ?_
  refine z_bipush dX6_lastDayOf_0 rfl ?_
  refine z_iload_n dX6_lastDayOf_2 rfl ?_
  refine z_imul dX6_lastDayOf_3 ?_
  refine z_bipush dX6_lastDayOf_4 rfl ?_
  refine z_iadd dX6_lastDayOf_6 ?_
  refine z_iconst dX6_lastDayOf_7 ?_
  refine z_isub dX6_lastDayOf_8 ?_
  exact y_ireturn dX6_lastDayOf_9 rfl (yR_rfl)
set_option maxHeartbeats 4000000 in
set_option maxRecDepth 100000 in
theorem c_X6_isPast (hB : yB n sh P) {t : Nat} (ht : I 0 8 = (t : Int)) (ht3 : t ≤ 300) {w : Int} (hw : (-2147483648 ≤ w ∧ w ≤ 2147483647)) : yC l E jX6_isPast (rm 0 0) [.ref (zb E + 0), .int (iI w)] n sh I P (yR (some (.int (iI (bI (0 ≤ w ∧ w ≤ (t : Int)))))) n sh (I) P) := by
  refine yC_of (by decide) (Nat.le_of_ble_eq_true rfl) ?_
  refine z_iload_n dX6_isPast_0 rfl ?_
  refine z_if_lt 16 dX6_isPast_1 (by decide) (by omega) (fun c_1 => ?_) (fun c_1 => ?_)
  · refine z_iconst dX6_isPast_16 ?_
    refine y_zreturn dX6_isPast_17 rfl (by decide) ?_
    first | (rw [bI_t (by omega)]; exact yR_rfl) | (rw [bI_f (by omega)]; exact yR_rfl)
  · refine z_iload_n dX6_isPast_4 rfl ?_
    refine z_aload_n dX6_isPast_5 rfl ?_
    refine y_getI dX6_isPast_6 fX6_55 (hB.lt (by decide)) (hB.2.1 0 (by decide)) rfl ?_
    refine z_icmp_gt 16 dX6_isPast_9 (by decide) (by omega) (by omega) (fun c_9 => ?_) (fun c_9 => ?_)
    · refine z_iconst dX6_isPast_16 ?_
      refine y_zreturn dX6_isPast_17 rfl (by decide) ?_
      first | (rw [bI_t (by omega)]; exact yR_rfl) | (rw [bI_f (by omega)]; exact yR_rfl)
    · refine z_iconst dX6_isPast_12 ?_
      refine z_goto 17 dX6_isPast_13 (by decide) ?_
      refine y_zreturn dX6_isPast_17 rfl (by decide) ?_
      first | (rw [bI_t (by omega)]; exact yR_rfl) | (rw [bI_f (by omega)]; exact yR_rfl)
set_option maxHeartbeats 4000000 in
set_option maxRecDepth 100000 in
theorem c_X6_memberAt (hB : yB n sh P) {mc : Nat} (hmc : I 0 6 = (mc : Int)) (hmc4 : mc ≤ 40) {m x : Nat} (hm : m < mc) (hx : P 1 m = some x) : yC l E jX6_memberAt (rm 0 0) [.ref (zb E + 0), .int (iI m)] n sh I P (yR (some (.ref (zb E + x))) n sh I P) := by
  refine yC_of (by decide) (Nat.le_of_ble_eq_true rfl) ?_
  refine z_iload_n dX6_memberAt_0 rfl ?_
  refine z_if_lt 21 dX6_memberAt_1 (by decide) (by omega) (fun c_1 => absurd c_1 (by omega)) (fun c_1 => ?_)
  refine z_iload_n dX6_memberAt_4 rfl ?_
  refine z_aload_n dX6_memberAt_5 rfl ?_
  refine y_getI dX6_memberAt_6 fX6_51 (hB.lt (by decide)) (hB.2.1 0 (by decide)) rfl ?_
  refine z_top ((mc : Int)) (hmc) ?_
  refine z_icmp_ge 21 dX6_memberAt_9 (by decide) (by omega) (by omega) (fun c_9 => absurd c_9 (by omega)) (fun c_9 => ?_)
  refine z_aload_n dX6_memberAt_12 rfl ?_
  refine y_getR dX6_memberAt_13 fX6_11 (hB.lt (by decide)) (hB.2.1 0 (by decide)) rfl (hB.2.2.1 0) ?_
  refine z_iload_n dX6_memberAt_16 rfl ?_
  refine y_aaload dX6_memberAt_17 (hB.lt (by decide)) (hB.2.1 1 (by decide)) (by decide) (by omega) (by decide) (by rw [Int.toNat_natCast]; exact hx) ?_
  refine z_goto 22 dX6_memberAt_18 (by decide) ?_
  exact y_areturn dX6_memberAt_22 rfl (Or.inl ⟨_, rfl⟩) (yR_rfl)
set_option maxHeartbeats 4000000 in
set_option maxRecDepth 100000 in
theorem c_X6_memberAt_no (hB : yB n sh P) {mc : Nat} (hmc : I 0 6 = (mc : Int)) (hmc4 : mc ≤ 40) {m : Int} (hmr : (-2147483648 ≤ m ∧ m ≤ 2147483647)) (hm : ¬ (0 ≤ m ∧ m < (mc : Int))) : yC l E jX6_memberAt (rm 0 0) [.ref (zb E + 0), .int (iI m)] n sh I P (yR (some .null) n sh I P) := by
  refine yC_of (by decide) (Nat.le_of_ble_eq_true rfl) ?_
  refine z_iload_n dX6_memberAt_0 rfl ?_
  refine z_if_lt 21 dX6_memberAt_1 (by decide) (by omega) (fun c_1 => ?_) (fun c_1 => ?_)
  · refine z_null dX6_memberAt_21 ?_
    exact y_areturnN dX6_memberAt_22 rfl (Or.inl ⟨_, rfl⟩) (yR_rfl)
  · refine z_iload_n dX6_memberAt_4 rfl ?_
    refine z_aload_n dX6_memberAt_5 rfl ?_
    refine y_getI dX6_memberAt_6 fX6_51 (hB.lt (by decide)) (hB.2.1 0 (by decide)) rfl ?_
    refine z_top ((mc : Int)) (hmc) ?_
    refine z_icmp_ge 21 dX6_memberAt_9 (by decide) (by omega) (by omega) (fun c_9 => ?_) (fun c_9 => ?_)
    · refine z_null dX6_memberAt_21 ?_
      exact y_areturnN dX6_memberAt_22 rfl (Or.inl ⟨_, rfl⟩) (yR_rfl)
    · exact absurd (by omega : (0 ≤ m ∧ m < (mc : Int))) hm
set_option maxHeartbeats 4000000 in
set_option maxRecDepth 100000 in
theorem c_X6_paperAt (hB : yB n sh P) {pc : Nat} (hmc : I 0 7 = (pc : Int)) (hmc4 : pc ≤ 200) {m x : Nat} (hm : m < pc) (hx : P 2 m = some x) : yC l E jX6_paperAt (rm 0 0) [.ref (zb E + 0), .int (iI m)] n sh I P (yR (some (.ref (zb E + x))) n sh I P) := by
  refine yC_of (by decide) (Nat.le_of_ble_eq_true rfl) ?_
  refine z_iload_n dX6_paperAt_0 rfl ?_
  refine z_if_lt 21 dX6_paperAt_1 (by decide) (by omega) (fun c_1 => absurd c_1 (by omega)) (fun c_1 => ?_)
  refine z_iload_n dX6_paperAt_4 rfl ?_
  refine z_aload_n dX6_paperAt_5 rfl ?_
  refine y_getI dX6_paperAt_6 fX6_97 (hB.lt (by decide)) (hB.2.1 0 (by decide)) rfl ?_
  refine z_top ((pc : Int)) (hmc) ?_
  refine z_icmp_ge 21 dX6_paperAt_9 (by decide) (by omega) (by omega) (fun c_9 => absurd c_9 (by omega)) (fun c_9 => ?_)
  refine z_aload_n dX6_paperAt_12 rfl ?_
  refine y_getR dX6_paperAt_13 fX6_17 (hB.lt (by decide)) (hB.2.1 0 (by decide)) rfl (hB.2.2.1 1) ?_
  refine z_iload_n dX6_paperAt_16 rfl ?_
  refine y_aaload dX6_paperAt_17 (hB.lt (by decide)) (hB.2.1 2 (by decide)) (by decide) (by omega) (by decide) (by rw [Int.toNat_natCast]; exact hx) ?_
  refine z_goto 22 dX6_paperAt_18 (by decide) ?_
  exact y_areturn dX6_paperAt_22 rfl (Or.inl ⟨_, rfl⟩) (yR_rfl)
set_option maxHeartbeats 4000000 in
set_option maxRecDepth 100000 in
theorem c_X6_paperAt_no (hB : yB n sh P) {pc : Nat} (hmc : I 0 7 = (pc : Int)) (hmc4 : pc ≤ 200) {m : Int} (hmr : (-2147483648 ≤ m ∧ m ≤ 2147483647)) (hm : ¬ (0 ≤ m ∧ m < (pc : Int))) : yC l E jX6_paperAt (rm 0 0) [.ref (zb E + 0), .int (iI m)] n sh I P (yR (some .null) n sh I P) := by
  refine yC_of (by decide) (Nat.le_of_ble_eq_true rfl) ?_
  refine z_iload_n dX6_paperAt_0 rfl ?_
  refine z_if_lt 21 dX6_paperAt_1 (by decide) (by omega) (fun c_1 => ?_) (fun c_1 => ?_)
  · refine z_null dX6_paperAt_21 ?_
    exact y_areturnN dX6_paperAt_22 rfl (Or.inl ⟨_, rfl⟩) (yR_rfl)
  · refine z_iload_n dX6_paperAt_4 rfl ?_
    refine z_aload_n dX6_paperAt_5 rfl ?_
    refine y_getI dX6_paperAt_6 fX6_97 (hB.lt (by decide)) (hB.2.1 0 (by decide)) rfl ?_
    refine z_top ((pc : Int)) (hmc) ?_
    refine z_icmp_ge 21 dX6_paperAt_9 (by decide) (by omega) (by omega) (fun c_9 => ?_) (fun c_9 => ?_)
    · refine z_null dX6_paperAt_21 ?_
      exact y_areturnN dX6_paperAt_22 rfl (Or.inl ⟨_, rfl⟩) (yR_rfl)
    · exact absurd (by omega : (0 ≤ m ∧ m < (pc : Int))) hm
set_option maxHeartbeats 4000000 in
set_option maxRecDepth 100000 in
theorem c_X0_grantOf (hB : yB n sh P) {a w q j : Nat} (hMb : yMb n sh P a) (hw3 : w ≤ 300) (hq3 : q ≤ 300) (hj : I a 2 = (j : Int)) (hj3 : j ≤ 300) (hO : ∀ w1, w1 ≤ w → -2147483648 ≤ bAr I a w1 q j ∧ bAr I a w1 q j ≤ 2147483647) (hV : ∀ k w1, k < 7 → w1 ≤ w → 0 ≤ bV I k w1 ∧ bV I k w1 ≤ 400) (hc : cOk I) {La : List Nat} (hch : chn P (P a 8) La) (hsr : srt I La) (hpa : ∀ x, x ∈ La → yPp n sh I x) : yC l E jX0_grantOf (rm 5 120) [.ref (zb E + 17), .ref (zb E + a), .int (iI w), .int (iI q)] n sh I P (fun v' n' sh' I' P' => n' = n ∧ sh' = sh ∧ P' = zpu P 17 2 (some a) ∧ (∀ x b, x ≠ 17 → x ≠ 18 → I' x b = I x b) ∧ cOk I' ∧ ∃ S, isS I q (7 * w + 6) La S ∧ v' = some (.int (iI (sGr S (bV I) (bOu I a q j) w (7 * w + 7))))) := by
  refine yC_of (by decide) (Nat.le_of_ble_eq_true rfl) ?_
  refine z_aload_n dX0_grantOf_0 rfl ?_
  refine z_aload_n dX0_grantOf_1 rfl ?_
  refine z_iload_n dX0_grantOf_2 rfl ?_
  refine z_iload_n dX0_grantOf_3 rfl ?_
  refine y_callSN (host := RX6) dX0_grantOf_4 nX6_lastDayOf (fun U h => h.2.2.2.1.2.2) (c_X6_lastDayOf (w := (w : Int))) rfl rfl (Nat.le_of_ble_eq_true rfl) ⟨⟨by decide, by decide⟩, by decide, by decide⟩ (fun v4 n4 sh4 I4 P4 hp4 => ?_)
  obtain ⟨rfl, rfl, rfl, rfl, rfl⟩ := hp4
  refine z_top ((7 * w + 6 : Nat) : Int) (by omega) ?_
  refine z_aload_n dX0_grantOf_7 rfl ?_
  refine y_getR dX0_grantOf_8 fX0_9 (hB.lt (by decide)) (hB.2.1 17 (by decide)) rfl (hB.2.2.2.2.2.1 1 (by decide)) ?_
  refine y_callV dX0_grantOf_11 kX0_23 (c_X0_goOver (g := 18) (M := 7 * w + 6) (q := q) (j := j) (La := La) hB hMb (hB.lt (by decide)) (hB.2.1 18 (by decide)) (by have := hMb.1; omega) (by omega) hq3 hj hj3 (fun w1 h1 => hO w1 (by omega)) (fun k w1 h1 h2 => hV k w1 h1 (by omega)) hc (fun x hx => by have := (hpa x hx).1; omega) hch hsr hpa) (hB.lt (by decide)) (hB.2.1 17 (by decide)) rfl rfl rfl (Nat.le_of_ble_eq_true rfl) ⟨⟨by decide, by decide⟩, by decide, by decide⟩ (fun v11 n11 sh11 I11 P11 hp11 => ?_)
  obtain ⟨rfl, rfl, rfl, rfl, S, hRr, hSs⟩ := hp11
  have hB2 := hB.sick (some a)
  refine z_aload_n dX0_grantOf_14 rfl ?_
  refine y_getR dX0_grantOf_15 fX0_9 (hB2.lt (by decide)) (hB2.2.1 17 (by decide)) rfl (hB2.2.2.2.2.2.1 1 (by decide)) ?_
  refine z_iload_n dX0_grantOf_18 rfl ?_
  refine y_ialoadJ (w) dX0_grantOf_19 (hB2.lt (by decide)) (hB2.2.1 18 (by decide)) (by omega) (by decide) ?_
  rw [hRr.2.2.2.2.2.2.2.2 w (by omega) (by omega)]
  exact y_ireturn dX0_grantOf_20 rfl (⟨rfl, rfl, rfl, hRr.1, hRr.ok, S, hSs, rfl⟩)
set_option maxHeartbeats 4000000 in
set_option maxRecDepth 100000 in
theorem c_X0_natureOf (hB : yB n sh P) {a d q j : Nat} (hMb : yMb n sh P a) (hd : d ≤ 2106) (hq3 : q ≤ 300) (hj : I a 2 = (j : Int)) (hj3 : j ≤ 300) (hO : ∀ w, w ≤ d / 7 → -2147483648 ≤ bAr I a w q j ∧ bAr I a w q j ≤ 2147483647) (hV : ∀ k w, k < 7 → w ≤ d / 7 → 0 ≤ bV I k w ∧ bV I k w ≤ 400) (hc : cOk I) {La : List Nat} (hch : chn P (P a 8) La) (hsr : srt I La) (hpa : ∀ x, x ∈ La → yPp n sh I x) : yC l E jX0_natureOf (rm 5 120) [.ref (zb E + 17), .ref (zb E + a), .int (iI d), .int (iI q)] n sh I P (fun v' n' sh' I' P' => n' = n ∧ sh' = sh ∧ P' = zpu P 17 2 (some a) ∧ (∀ x b, x ≠ 17 → x ≠ 18 → I' x b = I x b) ∧ cOk I' ∧ ∃ S, isS I q d La S ∧ v' = some (.int (iI (sWh S (bV I) (bOu I a q j) d)))) := by
  refine yC_of (by decide) (Nat.le_of_ble_eq_true rfl) ?_
  refine z_aload_n dX0_natureOf_0 rfl ?_
  refine z_aload_n dX0_natureOf_1 rfl ?_
  refine z_iload_n dX0_natureOf_2 rfl ?_
  refine z_iload_n dX0_natureOf_3 rfl ?_
  refine z_aload_n dX0_natureOf_4 rfl ?_
  refine y_getR dX0_natureOf_5 fX0_9 (hB.lt (by decide)) (hB.2.1 17 (by decide)) rfl (hB.2.2.2.2.2.1 1 (by decide)) ?_
  refine y_callV dX0_natureOf_8 kX0_23 (c_X0_goOver (g := 18) (M := d) (q := q) (j := j) (La := La) hB hMb (hB.lt (by decide)) (hB.2.1 18 (by decide)) (by have := hMb.1; omega) (by omega) hq3 hj hj3 (fun w1 h1 => hO w1 (by omega)) (fun k w1 h1 h2 => hV k w1 h1 (by omega)) hc (fun x hx => by have := (hpa x hx).1; omega) hch hsr hpa) (hB.lt (by decide)) (hB.2.1 17 (by decide)) rfl rfl rfl (Nat.le_of_ble_eq_true rfl) ⟨⟨by decide, by decide⟩, by decide, by decide⟩ (fun v8 n8 sh8 I8 P8 hp8 => ?_)
  obtain ⟨rfl, rfl, rfl, rfl, S, hRr, hSs⟩ := hp8
  have hB2 := hB.sick (some a)
  have hst := sSt_rng S (bV I 5) (d + 1)
  have hld := latest_day (S := S) (jo := bV I 5) (d := d) (fun x hx => ((hSs x).mp hx).1)
  refine z_aload_n dX0_natureOf_11 rfl ?_
  refine y_getI dX0_natureOf_12 fX0_27 (hB2.lt (by decide)) (hB2.2.1 17 (by decide)) rfl ?_
  refine z_top ((sSt S (bV I 5) (d + 1)).1) (hRr.2.2.1) ?_
  refine z_iload_n dX0_natureOf_15 rfl ?_
  refine z_icmp_ne 26 dX0_natureOf_16 (by decide) (by omega) (by omega) (fun c_16 => ?_) (fun c_16 => ?_)
  · refine z_iconst dX0_natureOf_26 ?_
    refine y_ireturn dX0_natureOf_27 rfl ?_
    refine ⟨rfl, rfl, rfl, hRr.1, hRr.ok, S, hSs, ?_⟩
    first
      | (have h5 := (hRr.2.2.2.2.2.1 (by omega)).2.2.2
         rw [c_16, Int.toNat_natCast] at h5
         rw [h5]; done)
      | (rw [sWh_0 (fun h => c_16 (hld.mpr h))]; done)
  · refine z_aload_n dX0_natureOf_19 rfl ?_
    refine y_getI dX0_natureOf_20 fX0_31 (hB2.lt (by decide)) (hB2.2.1 17 (by decide)) rfl ?_
    refine z_goto 27 dX0_natureOf_23 (by decide) ?_
    refine y_ireturn dX0_natureOf_27 rfl ?_
    refine ⟨rfl, rfl, rfl, hRr.1, hRr.ok, S, hSs, ?_⟩
    first
      | (have h5 := (hRr.2.2.2.2.2.1 (by omega)).2.2.2
         rw [c_16, Int.toNat_natCast] at h5
         rw [h5]; done)
      | (rw [sWh_0 (fun h => c_16 (hld.mpr h))]; done)
end BA
