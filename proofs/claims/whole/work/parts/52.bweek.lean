section BWk
variable {l : Launch} {E : zEnv} {n : Nat} {sh : Nat → Nat × Nat} {I : Nat → Nat → Int} {P : Nat → Nat → Option Nat}
set_option maxHeartbeats 4000000 in
set_option maxRecDepth 100000 in
theorem l_X6_workAnew {M : Nat → Nat → Int} {t mc rc pc bc c : Nat} {ma pa : Nat → Nat} {Ls : Nat → List Nat} {r rl : Nat} (hO : mOk M t mc rc pc bc c) : ∀ i : Nat, ∀ (I1 : Nat → Nat → Int) (P1 : Nat → Nat → Option Nat), (yB n sh P1 ∧ (∀ a, 24 ≤ a → a < 52 → I1 a = I a) ∧ P1 24 = P 24) → cpl n sh I1 P1 M t mc rc pc bc ma pa Ls r rl → (∀ k w, k < 7 → w ≤ t → bV I1 k w = vF M (t : Int) rc k w) → (∀ w, w ≤ t → I1 16 w = sm (I1 9) w) → (∀ m, m < i → I1 (ma m) 7 = 1 → ∀ w, w ≤ t → I1 (ma m + 3) w = GRm M m t pc rc w (7 * t + 7)) → i ≤ mc → Z l E jX6_workAnew (rm 5 120) (yE E 0 0 (fun v' n' sh' I' P' => v' = some (.int (iI (dn2 M t rc pc mc))) ∧ n' = n ∧ sh' = sh ∧ (yB n sh P' ∧ (∀ a, 24 ≤ a → a < 52 → I' a = I a) ∧ P' 24 = P 24) ∧ cpl n sh I' P' M t mc rc pc bc ma pa Ls r rl ∧ ∀ m, m < mc → I' (ma m) 7 = 1 → ∀ w, w ≤ t → I' (ma m + 3) w = GRm M m t pc rc w (7 * t + 7))) 0 0 (zw E n sh I1 P1) 19 [(0, .ref (zb E + 0)), (1, .int (iI (dn2 M t rc pc i))), (2, .int (iI i))] [] := by
  refine zloop (fun i : Nat => mc - i) (fun i ih I1 P1 hK hC hV h16 hW hi0 => ?_)
  have hB := hK.1
  obtain ⟨hN6, hN7, hN8⟩ := hC.1
  have hb5 := hO.2.1
  refine z_iload_n dX6_workAnew_19 rfl ?_
  refine z_aload_n dX6_workAnew_20 rfl ?_
  refine y_getI dX6_workAnew_21 fX6_51 (hB.lt (by decide)) (hB.2.1 0 (by decide)) rfl ?_
  refine z_top ((mc : Int)) (hN6) ?_
  refine z_icmp_ge 81 dX6_workAnew_24 (by decide) (by omega) (by omega) (fun c_24 => ?_) (fun c_24 => ?_)
  · have em : i = mc := by omega
    subst em
    refine z_iload_n dX6_workAnew_81 rfl ?_
    exact y_ireturn dX6_workAnew_82 rfl (⟨rfl, rfl, rfl, hK, hC, hW⟩)
  · have hi1 : i < mc := by omega
    obtain ⟨hx, hMe⟩ := hC.2.2.2.1 i hi1
    have hMb := hMe.1
    have h52 := hMb.1
    have h7 := hMe.2.2.2.2.2.1
    refine z_aload_n dX6_workAnew_27 rfl ?_
    refine y_getR dX6_workAnew_28 fX6_11 (hB.lt (by decide)) (hB.2.1 0 (by decide)) rfl (hB.2.2.1 0) ?_
    refine z_iload_n dX6_workAnew_31 rfl ?_
    refine y_aaload dX6_workAnew_32 (hB.lt (by decide)) (hB.2.1 1 (by decide)) (by decide) (by omega) (by decide) (by rw [Int.toNat_natCast]; exact hx) ?_
    refine z_astore_n dX6_workAnew_33 (by decide) ?_
    refine z_aload_n dX6_workAnew_34 rfl ?_
    refine y_getI dX6_workAnew_35 fX6_90 hMb.l0 hMb.2.1 rfl ?_
    refine z_if_eq 75 dX6_workAnew_38 (by decide) (by omega) (fun c_38 => ?_) (fun c_38 => ?_)
    · refine z_iinc dX6_workAnew_75 rfl (by decide) ?_
      refine z_goto 19 dX6_workAnew_78 (by decide) ?_
      refine z_keys [0, 1, 2] ?_
      have e : dn2 M t rc pc (i + 1) = dn2 M t rc pc i := by
        show dn2 M t rc pc i + dn1 M t rc pc i (t + 1) = _
        rw [show dn1 M t rc pc i (t + 1) = 0 from sm_0 (fun w hw => bI_f (fun z => z ((hC.2.2.2.2.1 i hi1 c_38).df hO hi1 (by omega))))]
        omega
      have h5 := ih (i + 1) (by omega) I1 P1 hK hC hV h16 (fun m hm h8 => by
        by_cases e : m = i
        · subst e; omega
        · exact hW m (by omega) h8) (by omega)
      rw [e] at h5
      exact h5
    · have hg := cpl.go (q := t) hO hC (fun _ _ => rfl) hi1 hV h16 (fun k w hk _ => vF_rng hO.2.2.1.1 hk)
      refine z_aload_n dX6_workAnew_41 rfl ?_
      refine y_getR dX6_workAnew_42 fX6_33 (hB.lt (by decide)) (hB.2.1 0 (by decide)) rfl (hB.2.2.1 3) ?_
      refine z_aload_n dX6_workAnew_45 rfl ?_
      refine z_aload_n dX6_workAnew_46 rfl ?_
      refine y_getI dX6_workAnew_47 fX6_55 (hB.lt (by decide)) (hB.2.1 0 (by decide)) rfl ?_
      refine z_top ((t : Int)) (hN8) ?_
      refine z_aload_n dX6_workAnew_50 rfl ?_
      refine y_getI dX6_workAnew_51 fX6_55 (hB.lt (by decide)) (hB.2.1 0 (by decide)) rfl ?_
      refine z_top ((t : Int)) (hN8) ?_
      refine y_callS dX6_workAnew_54 kX6_103 (c_X6_lastDayOf (w := (t : Int))) rfl rfl (Nat.le_of_ble_eq_true rfl) ⟨⟨by decide, by decide⟩, by decide, by decide⟩ (fun v54 n54 sh54 I54 P54 hp54 => ?_)
      obtain ⟨rfl, rfl, rfl, rfl, rfl⟩ := hp54
      refine z_top ((7 * t + 6 : Nat) : Int) (by omega) ?_
      refine z_aload_n dX6_workAnew_57 rfl ?_
      refine y_getR dX6_workAnew_58 fX6_226 hMb.l0 hMb.2.1 rfl hMb.2.2.2.2.2.2.2 ?_
      refine y_callV dX6_workAnew_61 kX6_229 (c_X0_goOver (g := ma i + 3) (M := 7 * t + 6) (q := t) (j := jn M i) (La := Ls i) hB hMb hMb.l3 hMb.2.2.2.2.1 (by omega) (by omega) (by omega) hg.1.2.1 hg.1.2.2 (fun w hw => hg.2.1 w (by omega)) (fun k w hk hw => hg.2.2.1 k w hk (by omega)) hg.2.2.2.1.1 (fun x hx => by obtain ⟨p, q1, -, rfl⟩ := (hC.2.2.2.2.2.2.2.2.1 i hi1 x).mp hx; exact (cPa.sep hMb (hC.2.2.2.2.2.2.1 p q1).2).2.2.2) hg.2.2.2.1.2.1 hg.2.2.2.1.2.2.1 hg.2.2.2.1.2.2.2) (hB.lt (by decide)) (hB.2.1 17 (by decide)) rfl rfl rfl (Nat.le_of_ble_eq_true rfl) ⟨⟨by decide, by decide⟩, by decide, by decide⟩ (fun v61 n61 sh61 I61 P61 hp61 => ?_)
      obtain ⟨rfl, rfl, rfl, rfl, S, hRr, hSs⟩ := hp61
      have hC3 := cpl.wk (v := some (ma i)) hC hO hi1 hRr.1 hRr.ok
      have hB3 := hB.sick (some (ma i))
      have hMb3 := hMb.sick (some (ma i))
      have hWi : ∀ w, w ≤ t → I61 (ma i + 3) w = GRm M i t pc rc w (7 * t + 7) := fun w hw => by
        rw [hRr.2.2.2.2.2.2.2.2 w (by omega) (by omega)]
        exact cpl.gr (D := 7 * t + 6) hO hC (fun _ _ => rfl) hi1 hV h16 hw (by omega) hSs
      have hbd : ∀ w, w ≤ t → bDf I61 (ma i) w = dfm M t rc pc i w := fun w hw => by
        unfold bDf dfm
        rw [hWi w hw, hRr.1 (ma i + 2) w (by omega) (by omega), hMe.2.2.2.1 w (by omega)]
      have hdr : ∀ w, w ≤ t → -2147483648 ≤ bDf I61 (ma i) w ∧ bDf I61 (ma i) w ≤ 2147483647 := fun w hw => by
        rw [hbd w hw]
        have h1 := GRm_rng (I := M) (m := i) (q := t) (pc := pc) (many := rc) (w := w) (D := 7 * t + 7) hO.2.2.1.1
        have h2 : 0 ≤ bk M i w ∧ bk M i w ≤ 842800 := hO.2.2.2.2.2.2.1.1 _
        unfold dfm
        omega
      refine z_iload_n dX6_workAnew_64 rfl ?_
      refine z_aload_n dX6_workAnew_65 rfl ?_
      refine z_aload_n dX6_workAnew_66 rfl ?_
      refine y_getI dX6_workAnew_67 fX6_55 (hB3.lt (by decide)) (hB3.2.1 0 (by decide)) rfl ?_
      refine z_top ((t : Int)) (hC3.1.2.2) ?_
      refine y_callV dX6_workAnew_70 kX6_233 (c_X2_differencesUpTo (T := t) hMb3 (by omega) hdr) hMb.l0 hMb.2.1 rfl rfl rfl (Nat.le_of_ble_eq_true rfl) ⟨⟨by decide, by decide⟩, by decide, by decide⟩ (fun v70 n70 sh70 I70 P70 hp70 => ?_)
      obtain ⟨rfl, rfl, rfl, rfl, rfl⟩ := hp70
      refine z_top (dn1 M t rc pc i (t + 1)) (sm_cong (fun w hw => bI_cong (by rw [hbd w (by omega)]))) ?_
      refine z_iadd dX6_workAnew_73 ?_
      refine z_istore_n dX6_workAnew_74 (by decide) ?_
      refine z_iinc dX6_workAnew_75 rfl (by decide) ?_
      refine z_goto 19 dX6_workAnew_78 (by decide) ?_
      refine z_keys [0, 1, 2] ?_
      refine ih (i + 1) (by omega) I61 (zpu P1 17 2 (some (ma i))) ⟨hB3, fun a h1 h2 => ?_, ?_⟩ hC3 (fun k w hk hw => ?_) (fun w hw => ?_) (fun m hm h8 w hw => ?_) (by omega)
      · rw [← hK.2.1 a h1 h2]; exact funext fun b => hRr.1 a b (by omega) (by omega)
      · rw [zpu_ne (by omega)]; exact hK.2.2
      · rw [← hV k w hk hw]; exact hRr.1 (9 + k) w (by omega) (by omega)
      · rw [hRr.1 16 w (by omega) (by omega), h16 w hw]; exact sm_cong (fun b _ => (hRr.1 9 b (by omega) (by omega)).symm)
      · by_cases e : m = i
        · subst e; exact hWi w hw
        · have hm1 : m < mc := by omega
          have hMb2 := (hC.2.2.2.1 m hm1).2.1
          have g2 := hMb2.1
          have hse := hMb2.sep hMb
          have hne : ma m ≠ ma i := fun z => e (hC.2.2.2.2.2.1 m i hm1 hi1 z)
          rw [hRr.1 (ma m) 7 (by omega) (by omega)] at h8
          rw [hRr.1 (ma m + 3) w (by omega) (by omega)]
          exact hW m (by omega) h8 w hw
set_option maxHeartbeats 4000000 in
set_option maxRecDepth 100000 in
theorem c_X6_workAnew (hB : yB n sh P) {M : Nat → Nat → Int} {t mc rc pc bc c : Nat} {ma pa : Nat → Nat} {Ls : Nat → List Nat} {r rl : Nat} (hO : mOk M t mc rc pc bc c) (hC : cpl n sh I P M t mc rc pc bc ma pa Ls r rl) : yC l E jX6_workAnew (rm 5 120) [.ref (zb E + 0)] n sh I P (fun v' n' sh' I' P' => v' = some (.int (iI (dn2 M t rc pc mc))) ∧ n' = n ∧ sh' = sh ∧ (yB n sh P' ∧ (∀ a, 24 ≤ a → a < 52 → I' a = I a) ∧ P' 24 = P 24) ∧ cpl n sh I' P' M t mc rc pc bc ma pa Ls r rl ∧ ∀ m, m < mc → I' (ma m) 7 = 1 → ∀ w, w ≤ t → I' (ma m + 3) w = GRm M m t pc rc w (7 * t + 7)) := by
  obtain ⟨hN6, hN7, hN8⟩ := hC.1
  have hb5 := hO.2.1
  refine yC_of (by decide) (Nat.le_of_ble_eq_true rfl) ?_
  refine z_aload_n dX6_workAnew_0 rfl ?_
  refine y_getR dX6_workAnew_1 fX6_24 (hB.lt (by decide)) (hB.2.1 0 (by decide)) rfl (hB.2.2.1 2) ?_
  refine z_aload_n dX6_workAnew_4 rfl ?_
  refine y_getI dX6_workAnew_5 fX6_55 (hB.lt (by decide)) (hB.2.1 0 (by decide)) rfl ?_
  refine z_top ((t : Int)) (hN8) ?_
  refine z_aload_n dX6_workAnew_8 rfl ?_
  refine y_getI dX6_workAnew_9 fX6_55 (hB.lt (by decide)) (hB.2.1 0 (by decide)) rfl ?_
  refine z_top ((t : Int)) (hN8) ?_
  refine y_callV dX6_workAnew_12 kX6_70 (c_X4_lookFrom (q := (t : Int)) (T := t) hB hC.2.1.1 (by omega) (cpl.Rl hO hC) hC.2.1.2.2.2.1 (by omega) (by omega)) (hB.lt (by decide)) (hB.2.1 3 (by decide)) rfl rfl rfl (Nat.le_of_ble_eq_true rfl) ⟨⟨by decide, by decide⟩, by decide, by decide⟩ (fun v12 n12 sh12 I12 P12 hp12 => ?_)
  obtain ⟨rfl, rfl, rfl, rfl, h12⟩ := hp12
  obtain ⟨hC2, hV, h16, hr⟩ := cpl.look hO hC h12
  refine z_iconst dX6_workAnew_15 ?_
  refine z_istore_n dX6_workAnew_16 (by decide) ?_
  refine z_iconst dX6_workAnew_17 ?_
  refine z_istore_n dX6_workAnew_18 (by decide) ?_
  refine z_keys [0, 1, 2] ?_
  exact l_X6_workAnew hO 0 I12 P ⟨hB, fun a h1 _ => hr a (by omega), rfl⟩ hC2 hV h16 (fun m hm => absurd hm (Nat.not_lt_zero m)) (by omega)
set_option maxHeartbeats 4000000 in
set_option maxRecDepth 100000 in
theorem l2_X6_bookDifferences {M : Nat → Nat → Int} {t mc rc pc bc c : Nat} {ma pa : Nat → Nat} {Ls : Nat → List Nat} {r rl : Nat} {X : Nat} {dd : Int} {K : zK} (hO : mOk M t mc rc pc bc c) (hB : yB n sh P) (hrl : (bc : Int) + sm (fun w => bzm (dfm M t rc pc) w mc) (t + 1) ≤ 20000 ∧ 4 * ((bc : Int) + sm (fun w => bzm (dfm M t rc pc) w mc) (t + 1)) ≤ (rl : Int)) {w : Nat} (hw : w ≤ t) (hout : ∀ (I1 : Nat → Nat → Int) (b : Nat), (b : Int) = (bc : Int) + sm (fun w => bzm (dfm M t rc pc) w mc) (w + 1) → cpl n sh I1 P (mB2 M (t : Int) (dfm M t rc pc) mc (w + 1)) t mc rc pc b ma pa Ls r rl → (∀ m, m < mc → I1 (ma m) 7 = 0 → ∀ w, w ≤ t → dfm M t rc pc m w = 0) → (∀ m, m < mc → I1 (ma m) 7 = 1 → ∀ w, w ≤ t → I1 (ma m + 3) w = GRm M m t pc rc w (7 * t + 7)) → (∀ a, 24 ≤ a → a < 52 → I1 a = I a) → Z l E jX6_bookDifferences ({ frames := 4, cells := 1, slots := X, locals := 104 } : Room) K 1 X (zw E n sh I1 P) 84 [(0, .ref (zb E + 0)), (1, .int (iI dd)), (2, .int (iI w)), (3, .int (iI mc))] []) : ∀ m : Nat, ∀ (I1 : Nat → Nat → Int) (b : Nat), (b : Int) = (bc : Int) + sm (fun w => bzm (dfm M t rc pc) w mc) w + bzm (dfm M t rc pc) w m → cpl n sh I1 P (mB1 (mB2 M (t : Int) (dfm M t rc pc) mc w) (t : Int) (dfm M t rc pc) w m) t mc rc pc b ma pa Ls r rl → (∀ m, m < mc → I1 (ma m) 7 = 0 → ∀ w, w ≤ t → dfm M t rc pc m w = 0) → (∀ m, m < mc → I1 (ma m) 7 = 1 → ∀ w, w ≤ t → I1 (ma m + 3) w = GRm M m t pc rc w (7 * t + 7)) → (∀ a, 24 ≤ a → a < 52 → I1 a = I a) → m ≤ mc → Z l E jX6_bookDifferences ({ frames := 4, cells := 1, slots := X, locals := 104 } : Room) K 1 X (zw E n sh I1 P) 20 [(0, .ref (zb E + 0)), (1, .int (iI dd)), (2, .int (iI w)), (3, .int (iI m))] [] := by
  refine zloop (fun m : Nat => mc - m) (fun m ih I1 b hb hC hSt hWk hRw hm0 => ?_)
  obtain ⟨hN6, hN7, hN8⟩ := hC.1
  have hb5 := hO.2.1
  refine z_iload_n dX6_bookDifferences_20 rfl ?_
  refine z_aload_n dX6_bookDifferences_21 rfl ?_
  refine y_getI dX6_bookDifferences_22 fX6_51 (hB.lt (by decide)) (hB.2.1 0 (by decide)) rfl ?_
  refine z_top ((mc : Int)) (hN6) ?_
  refine z_icmp_ge 84 dX6_bookDifferences_25 (by decide) (by omega) (by omega) (fun c_25 => ?_) (fun c_25 => ?_)
  · have hm3 : sm (fun w => bzm (dfm M t rc pc) w mc) (w + 1) = sm (fun w => bzm (dfm M t rc pc) w mc) w + bzm (dfm M t rc pc) w mc := rfl
    have em : m = mc := by omega
    subst em
    exact hout I1 b (by omega) hC hSt hWk hRw
  · have hm1 : m < mc := by omega
    obtain ⟨hx, hMe⟩ := hC.2.2.2.1 m hm1
    have hMb := hMe.1
    have h52 := hMb.1
    have h7 := hMe.2.2.2.2.2.1
    refine z_aload_n dX6_bookDifferences_28 rfl ?_
    refine y_getR dX6_bookDifferences_29 fX6_11 (hB.lt (by decide)) (hB.2.1 0 (by decide)) rfl (hB.2.2.1 0) ?_
    refine z_iload_n dX6_bookDifferences_32 rfl ?_
    refine y_aaload dX6_bookDifferences_33 (hB.lt (by decide)) (hB.2.1 1 (by decide)) (by decide) (by omega) (by decide) (by rw [Int.toNat_natCast]; exact hx) ?_
    refine z_astore dX6_bookDifferences_34 (by decide) ?_
    refine z_aload dX6_bookDifferences_36 rfl ?_
    refine y_getI dX6_bookDifferences_38 fX6_90 hMb.l0 hMb.2.1 rfl ?_
    refine z_if_eq 78 dX6_bookDifferences_41 (by decide) (by omega) (fun c_41 => ?_) (fun c_41 => ?_)
    · have hD0 : dfm M t rc pc m w = 0 := hSt m hm1 c_41 w hw
      refine z_iinc dX6_bookDifferences_78 rfl (by decide) ?_
      refine z_goto 20 dX6_bookDifferences_81 (by decide) ?_
      refine z_keys [0, 1, 2, 3] ?_
      have e : (mB1 (mB2 M (t : Int) (dfm M t rc pc) mc w) (t : Int) (dfm M t rc pc) w (m + 1)) = (mB1 (mB2 M (t : Int) (dfm M t rc pc) mc w) (t : Int) (dfm M t rc pc) w m) := by rw [mB1_succ, if_pos hD0]
      refine ih (m + 1) (by omega) I1 b ?_ (by rw [e]; exact hC) hSt hWk hRw (by omega)
      have e2 : bzm (dfm M t rc pc) w (m + 1) = bzm (dfm M t rc pc) w m + bI (¬ (dfm M t rc pc) m w = 0) := rfl
      rw [bI_f (fun z => z hD0)] at e2
      omega
    · have h71 : I1 (ma m) 7 = 1 := by omega
      have hbq : I1 (ma m + 2) w = bk M m w := by rw [hMe.2.2.2.1 w (by omega), bk_b1 (by omega) (by omega), if_neg (by omega), bk_b2 (by omega) w (by omega), if_neg (by omega)]
      have hbd : bDf I1 (ma m) w = dfm M t rc pc m w := by unfold bDf dfm; rw [hWk m hm1 h71 w hw, hbq]
      have hdr : -2147483648 ≤ dfm M t rc pc m w ∧ dfm M t rc pc m w ≤ 2147483647 := by
        have h1 := GRm_rng (I := M) (m := m) (q := t) (pc := pc) (many := rc) (w := w) (D := 7 * t + 7) hO.2.2.1.1
        have h2 : 0 ≤ bk M m w ∧ bk M m w ≤ 842800 := hO.2.2.2.2.2.2.1.1 _
        unfold dfm
        omega
      refine z_aload dX6_bookDifferences_44 rfl ?_
      refine z_iload_n dX6_bookDifferences_46 rfl ?_
      refine y_callV dX6_bookDifferences_47 kX6_239 (c_X2_differenceIn (w := w) hMb (by omega)) hMb.l0 hMb.2.1 rfl rfl rfl (Nat.le_of_ble_eq_true rfl) ⟨⟨Nat.le_of_ble_eq_true rfl, Nat.le_of_ble_eq_true rfl⟩, Nat.le_refl _, Nat.le_refl _⟩ (fun v47 n47 sh47 I47 P47 hp47 => ?_)
      obtain ⟨rfl, rfl, rfl, rfl, rfl⟩ := hp47
      rw [hbd]
      refine z_if_eq 78 dX6_bookDifferences_50 (by decide) hdr (fun c_50 => ?_) (fun c_50 => ?_)
      · have hD0 : dfm M t rc pc m w = 0 := c_50
        refine z_iinc dX6_bookDifferences_78 rfl (by decide) ?_
        refine z_goto 20 dX6_bookDifferences_81 (by decide) ?_
        refine z_keys [0, 1, 2, 3] ?_
        have e : (mB1 (mB2 M (t : Int) (dfm M t rc pc) mc w) (t : Int) (dfm M t rc pc) w (m + 1)) = (mB1 (mB2 M (t : Int) (dfm M t rc pc) mc w) (t : Int) (dfm M t rc pc) w m) := by rw [mB1_succ, if_pos hD0]
        refine ih (m + 1) (by omega) I1 b ?_ (by rw [e]; exact hC) hSt hWk hRw (by omega)
        have e2 : bzm (dfm M t rc pc) w (m + 1) = bzm (dfm M t rc pc) w m + bI (¬ (dfm M t rc pc) m w = 0) := rfl
        rw [bI_f (fun z => z hD0)] at e2
        omega
      · have hL := hC.2.2.2.2.2.2.2.2.2.1
        have e2 : bzm (dfm M t rc pc) w (m + 1) = bzm (dfm M t rc pc) w m + bI (¬ (dfm M t rc pc) m w = 0) := rfl
        rw [bI_t c_50] at e2
        have hm2 := bzm_mono (D := (dfm M t rc pc)) (w := w) (show m + 1 ≤ mc by omega)
        have hm3 : sm (fun w => bzm (dfm M t rc pc) w mc) (w + 1) = sm (fun w => bzm (dfm M t rc pc) w mc) w + bzm (dfm M t rc pc) w mc := rfl
        have hm4 := bz2_mono (D := (dfm M t rc pc)) (mc := mc) (show w + 1 ≤ t + 1 by omega)
        have hr19 : r ≠ 19 := by have := hL.2.1.1; omega
        refine z_aload_n dX6_bookDifferences_53 rfl ?_
        refine y_getR dX6_bookDifferences_54 fX6_40 (hB.lt (by decide)) (hB.2.1 0 (by decide)) rfl (hB.2.2.1 4) ?_
        refine z_aload_n dX6_bookDifferences_57 rfl ?_
        refine y_getI dX6_bookDifferences_58 fX6_55 (hB.lt (by decide)) (hB.2.1 0 (by decide)) rfl ?_
        refine z_top ((t : Int)) (hN8) ?_
        refine z_iload_n dX6_bookDifferences_61 rfl ?_
        refine z_iload_n dX6_bookDifferences_62 rfl ?_
        refine z_aload dX6_bookDifferences_63 rfl ?_
        refine z_iload_n dX6_bookDifferences_65 rfl ?_
        refine y_callV dX6_bookDifferences_66 kX6_239 (c_X2_differenceIn (w := w) hMb (by omega)) hMb.l0 hMb.2.1 rfl rfl rfl (Nat.le_of_ble_eq_true rfl) ⟨⟨Nat.le_of_ble_eq_true rfl, Nat.le_of_ble_eq_true rfl⟩, Nat.le_refl _, Nat.le_refl _⟩ (fun v66 n66 sh66 I66 P66 hp66 => ?_)
        obtain ⟨rfl, rfl, rfl, rfl, rfl⟩ := hp66
        rw [hbd]
        refine y_callV dX6_bookDifferences_69 kX6_242 (c_X1_add (b := b) (t := (t : Int)) (w := (w : Int)) (m := (m : Int)) (d := dfm M t rc pc m w) hB hL.1.2 hL.2.1.2.1 hL.2.1.2.2 hL.2.2.1.2.1 hL.1.1 (by omega) (fun z => hr19 z.symm)) (hB.lt (by decide)) (hB.2.1 19 (by decide)) rfl rfl rfl (Nat.le_of_ble_eq_true rfl) ⟨⟨Nat.le_of_ble_eq_true rfl, Nat.le_of_ble_eq_true rfl⟩, Nat.le_refl _, Nat.le_refl _⟩ (fun v69 n69 sh69 I69 P69 hp69 => ?_)
        obtain ⟨rfl, rfl, rfl, rfl, rfl⟩ := hp69
        refine z_aload dX6_bookDifferences_72 rfl ?_
        refine z_iload_n dX6_bookDifferences_74 rfl ?_
        refine y_callV dX6_bookDifferences_75 kX6_243 (c_X2_bookDifferenceIn (w := w) hMb (by omega)) hMb.l0 hMb.2.1 rfl rfl rfl (Nat.le_of_ble_eq_true rfl) ⟨⟨Nat.le_of_ble_eq_true rfl, Nat.le_of_ble_eq_true rfl⟩, Nat.le_refl _, Nat.le_refl _⟩ (fun v75 n75 sh75 I75 P75 hp75 => ?_)
        obtain ⟨rfl, rfl, rfl, rfl, rfl⟩ := hp75
        refine z_iinc dX6_bookDifferences_78 rfl (by decide) ?_
        refine z_goto 20 dX6_bookDifferences_81 (by decide) ?_
        refine z_keys [0, 1, 2, 3] ?_
        have hnb : ((mB1 (mB2 M (t : Int) (dfm M t rc pc) mc w) (t : Int) (dfm M t rc pc) w m) 24 4).toNat = b := by rw [mB1_n (by rw [mB2_n (by rw [hO.1.2.2.2.2]; omega)]; rw [hO.1.2.2.2.2]; have := bz2_mono (D := (dfm M t rc pc)) (mc := mc) (show 0 ≤ w by omega); have e0 : sm (fun w => bzm (dfm M t rc pc) w mc) 0 = 0 := rfl; omega), mB2_n (by rw [hO.1.2.2.2.2]; omega), hO.1.2.2.2.2]; omega
        have e : (mB1 (mB2 M (t : Int) (dfm M t rc pc) mc w) (t : Int) (dfm M t rc pc) w (m + 1)) = mBo (mB1 (mB2 M (t : Int) (dfm M t rc pc) mc w) (t : Int) (dfm M t rc pc) w m) b (t : Int) w m (dfm M t rc pc m w) := by rw [mB1_succ, if_neg c_50, hnb]
        have hC5 := cpl.book (d := dfm M t rc pc m w) hC (by omega) hm1 hw h71 (by omega) (by rw [← hbd]; unfold bDf; omega)
        rw [← e] at hC5
        have hbf := fun m2 (hm2 : m2 < mc) => cpl.bookF (w := w) (d := dfm M t rc pc m w) hC hm1 hm2
        refine ih (m + 1) (by omega) _ (b + 1) (by omega) hC5 (fun m2 hm2 h8 => hSt m2 hm2 ((hbf m2 hm2).1.symm.trans h8)) (fun m2 hm2 h8 w2 hw2 => (congrFun (hbf m2 hm2).2 w2).trans (hWk m2 hm2 ((hbf m2 hm2).1.symm.trans h8) w2 hw2)) (fun a h1 h2 => ?_) (by omega)
        show bkA (ldA I1 r b (t : Int) (w : Int) (m : Int) (dfm M t rc pc m w)) (ma m) w a = I a
        rw [bkA_ne (by omega) (by omega), ldA_ne (by have := hL.2.1.1; omega) (by omega)]; exact hRw a h1 h2
set_option maxHeartbeats 4000000 in
set_option maxRecDepth 100000 in
theorem l1_X6_bookDifferences {M : Nat → Nat → Int} {t mc rc pc bc c : Nat} {ma pa : Nat → Nat} {Ls : Nat → List Nat} {r rl : Nat} {X : Nat} {dd : Int} {K : zK} (hO : mOk M t mc rc pc bc c) (hB : yB n sh P) (hrl : (bc : Int) + sm (fun w => bzm (dfm M t rc pc) w mc) (t + 1) ≤ 20000 ∧ 4 * ((bc : Int) + sm (fun w => bzm (dfm M t rc pc) w mc) (t + 1)) ≤ (rl : Int)) (hend : ∀ (I1 : Nat → Nat → Int) (b : Nat), (b : Int) = (bc : Int) + sm (fun w => bzm (dfm M t rc pc) w mc) (t + 1) → cpl n sh I1 P (mB2 M (t : Int) (dfm M t rc pc) mc (t + 1)) t mc rc pc b ma pa Ls r rl → (∀ a, 24 ≤ a → a < 52 → I1 a = I a) → Z l E jX6_bookDifferences ({ frames := 4, cells := 1, slots := X, locals := 104 } : Room) K 1 X (zw E n sh I1 P) 90 [(0, .ref (zb E + 0)), (1, .int (iI dd)), (2, .int (iI ((t + 1 : Nat) : Int)))] []) : ∀ w : Nat, ∀ (I1 : Nat → Nat → Int) (b : Nat), (b : Int) = (bc : Int) + sm (fun w => bzm (dfm M t rc pc) w mc) w → cpl n sh I1 P (mB2 M (t : Int) (dfm M t rc pc) mc w) t mc rc pc b ma pa Ls r rl → (∀ m, m < mc → I1 (ma m) 7 = 0 → ∀ w, w ≤ t → dfm M t rc pc m w = 0) → (∀ m, m < mc → I1 (ma m) 7 = 1 → ∀ w, w ≤ t → I1 (ma m + 3) w = GRm M m t pc rc w (7 * t + 7)) → (∀ a, 24 ≤ a → a < 52 → I1 a = I a) → w ≤ t + 1 → Z l E jX6_bookDifferences ({ frames := 4, cells := 1, slots := X, locals := 104 } : Room) K 1 X (zw E n sh I1 P) 10 [(0, .ref (zb E + 0)), (1, .int (iI dd)), (2, .int (iI w))] [] := by
  refine zloop (fun w : Nat => t + 1 - w) (fun w ih I1 b hb hC hSt hWk hRw hw0 => ?_)
  obtain ⟨hN6, hN7, hN8⟩ := hC.1
  have hb5 := hO.2.1
  refine z_iload_n dX6_bookDifferences_10 rfl ?_
  refine z_aload_n dX6_bookDifferences_11 rfl ?_
  refine y_getI dX6_bookDifferences_12 fX6_55 (hB.lt (by decide)) (hB.2.1 0 (by decide)) rfl ?_
  refine z_top ((t : Int)) (hN8) ?_
  refine z_icmp_gt 90 dX6_bookDifferences_15 (by decide) (by omega) (by omega) (fun c_15 => ?_) (fun c_15 => ?_)
  · have ew : w = t + 1 := by omega
    subst ew
    exact hend I1 b hb hC hRw
  · refine z_iconst dX6_bookDifferences_18 ?_
    refine z_istore_n dX6_bookDifferences_19 (by decide) ?_
    refine z_keys [0, 1, 2, 3] ?_
    refine l2_X6_bookDifferences hO hB hrl (by omega : w ≤ t) (fun I2 b2 hb2 hC2 hS2 hW2 hR2 => ?_) 0 I1 b (by show (b : Int) = _ + 0; omega) hC hSt hWk hRw (by omega)
    refine z_iinc dX6_bookDifferences_84 rfl (by decide) ?_
    refine z_goto 10 dX6_bookDifferences_87 (by decide) ?_
    refine z_keys [0, 1, 2] ?_
    exact ih (w + 1) (by omega) I2 b2 hb2 hC2 hS2 hW2 hR2 (by omega)
set_option maxHeartbeats 4000000 in
set_option maxRecDepth 100000 in
theorem c_X6_bookDifferences (hB : yB n sh P) {M : Nat → Nat → Int} {t mc rc pc bc c : Nat} {ma pa : Nat → Nat} {Ls : Nat → List Nat} {r rl : Nat} (hO : mOk M t mc rc pc bc c) (hC : cpl n sh I P M t mc rc pc bc ma pa Ls r rl) {d : Nat} (hd : dn2 M t rc pc mc = (d : Int)) (hd2 : bc + d ≤ 20000) (hSt : ∀ m, m < mc → I (ma m) 7 = 0 → ∀ w, w ≤ t → dfm M t rc pc m w = 0) (hWk : ∀ m, m < mc → I (ma m) 7 = 1 → ∀ w, w ≤ t → I (ma m + 3) w = GRm M m t pc rc w (7 * t + 7)) : yC l E jX6_bookDifferences ({ frames := 4, cells := 1, slots := wkS rl (bc + d), locals := 104 } : Room) [.ref (zb E + 0), .int (iI d)] n sh I P (fun v' n' sh' I' P' => v' = none ∧ (yB n' sh' P' ∧ (∀ a, 24 ≤ a → a < 52 → I' a = I a) ∧ P' 24 = P 24) ∧ ∃ r', cpl n' sh' I' P' (mB2 M (t : Int) (dfm M t rc pc) mc (t + 1)) t mc rc pc (bc + d) ma pa Ls r' (wkL rl (bc + d))) := by
  obtain ⟨hN6, hN7, hN8⟩ := hC.1
  have hb5 := hO.2.1
  have hL := hC.2.2.2.2.2.2.2.2.2.1
  have hsw : sm (fun w => bzm (dfm M t rc pc) w mc) (t + 1) = dn2 M t rc pc mc := sm_swap (fun w m => bI (¬ dfm M t rc pc m w = 0)) mc (t + 1)
  have hwl := wkL_ok hL.2.2.1.1 hL.2.2.1.2.1 hL.2.2.1.2.2.1 hd2
  have hn52 := hB.1
  refine yC_of (by decide) (Nat.le_of_ble_eq_true rfl) ?_
  refine z_aload_n dX6_bookDifferences_0 rfl ?_
  refine y_getR dX6_bookDifferences_1 fX6_40 (hB.lt (by decide)) (hB.2.1 0 (by decide)) rfl (hB.2.2.1 4) ?_
  refine z_iload_n dX6_bookDifferences_4 rfl ?_
  refine y_callV dX6_bookDifferences_5 kX6_236 (c_X1_makeRoom (d := d) hB hL.1.2 hL.2.1.2.1 hL.2.1.2.2 hL.2.2.1.2.1 hL.1.1 hd2) (hB.lt (by decide)) (hB.2.1 19 (by decide)) rfl rfl rfl (Nat.le_of_ble_eq_true rfl) ⟨⟨Nat.le_of_ble_eq_true rfl, Nat.le_of_ble_eq_true rfl⟩, Nat.le_refl _, Nat.le_of_eq (Nat.zero_add _)⟩ (fun v5 n5 sh5 I5 P5 hp5 => ?_)
  obtain ⟨rfl, hp5⟩ := hp5
  obtain ⟨g0, rfl, rfl, rfl, rfl⟩ | ⟨g0, rfl, rfl, rfl, rfl⟩ := hp5
  · have ewl : wkL rl (bc + d) = rl := by unfold wkL; rw [if_neg g0]
    refine z_iconst dX6_bookDifferences_8 ?_
    refine z_istore_n dX6_bookDifferences_9 (by decide) ?_
    refine z_keys [0, 1, 2] ?_
    refine z_widen (c2 := 1) (s2 := wkS rl (bc + d)) (Nat.le_of_eq (Nat.zero_add _)) (Nat.le_of_eq (Nat.zero_add _)) ?_
    refine l1_X6_bookDifferences (rl := rl) (bc := bc) hO hB (by rw [hsw, hd]; omega) (fun I9 b9 hb9 hC9 hR9 => ?_) 0 I5 bc (by show (bc : Int) = _ + 0; omega) hC hSt hWk (fun _ _ _ => rfl) (by omega)
    have e9 : b9 = bc + d := by omega
    subst e9
    refine y_return dX6_bookDifferences_90 rfl ⟨rfl, ⟨hB, hR9, rfl⟩, r, ?_⟩
    rw [ewl]; exact hC9
  · have hC5 := cpl.room (d := d) hC hO hB hd2
    have Q : ∀ x, x < n → cpI I n r rl x = I x := fun x hx => by funext b; simp only [cpI, show ¬ x = n by omega, if_false]
    have hB5 : yB (n + 1) (zsh sh n (1, wkL rl (bc + d))) (zpu (zcp P n) 19 0 (some n)) := hB.ext (by omega) (fun x hx => by simp only [zsh, show ¬ x = n by omega, if_false]) (fun x b hx _ _ _ h19 => by rw [zpu_ne h19]; simp only [zcp, show ¬ x = n by omega, if_false])
    refine z_iconst dX6_bookDifferences_8 ?_
    refine z_istore_n dX6_bookDifferences_9 (by decide) ?_
    refine z_keys [0, 1, 2] ?_
    refine z_widen (c2 := 1) (s2 := wkS rl (bc + d)) (Nat.le_of_eq (Nat.zero_add _)) (Nat.le_of_eq (Nat.zero_add _)) ?_
    refine l1_X6_bookDifferences (I := I) (rl := wkL rl (bc + d)) (bc := bc) hO hB5 (by rw [hsw, hd]; omega) (fun I9 b9 hb9 hC9 hR9 => ?_) 0 (cpI I n r rl) bc (by show (bc : Int) = _ + 0; omega) hC5 (fun m hm h8 => ?_) (fun m hm h8 w hw => ?_) (fun a h1 h2 => Q a (by omega)) (by omega)
    · have e9 : b9 = bc + d := by omega
      subst e9
      exact y_return dX6_bookDifferences_90 rfl ⟨rfl, ⟨hB5, hR9, by rw [zpu_ne (by omega)]; funext b; simp only [zcp, show ¬ 24 = n by omega, if_false]⟩, n, hC9⟩
    · have := (hC.2.2.2.1 m hm).2.1.1; rw [Q _ (by omega)] at h8; exact hSt m hm h8
    · have := (hC.2.2.2.1 m hm).2.1.1; rw [Q _ (by omega)] at h8 ⊢; exact hWk m hm h8 w hw
set_option maxHeartbeats 4000000 in
set_option maxRecDepth 100000 in
theorem l_X6_week {M : Nat → Nat → Int} {t mc rc pc bc c : Nat} {ma pa : Nat → Nat} {Ls : Nat → List Nat} {r rl : Nat} {X b2 : Nat} {dd : Int} {M' I0 : Nat → Nat → Int} {P0 : Nat → Nat → Option Nat} (hO : mOk M t mc rc pc bc c) (hB : yB n sh P) (hC : cpl n sh I P M' t mc rc pc b2 ma pa Ls r rl) (ht3 : t < 300) (hRM : ∀ k, k ≠ 24 → k < 38 ∨ 42 < k → M' k = M k) (hbk : ∀ m w, m < mc → w ≤ t → bk M' m w = GRm M m t pc rc w (7 * t + 7)) (hR0 : ∀ a, 24 ≤ a → a < 52 → I a = I0 a) (h24 : P 24 = P0 24) : ∀ i : Nat, i ≤ mc → Z l E jX6_week ({ frames := 6, cells := 1, slots := X, locals := 143 } : Room) (yE E 1 X (kP (.int (iI dd)) I0 P0 (mNx M' t) (t + 1) mc rc pc b2 rl)) 1 X (zw E n sh (edI I ma t i) P) 45 [(0, .ref (zb E + 0)), (1, .int (iI dd)), (2, .int (iI i))] [] := by
  obtain ⟨hN6, hN7, hN8⟩ := hC.1
  have hb5 := hO.2.1
  have h52 : ∀ m, m < mc → 52 ≤ ma m := fun m hm => (hC.2.2.2.1 m hm).2.1.1.1
  refine zloop (fun i : Nat => mc - i) (fun i ih hi0 => ?_)
  refine z_iload_n dX6_week_45 rfl ?_
  refine z_aload_n dX6_week_46 rfl ?_
  refine y_getI dX6_week_47 fX6_51 (hB.lt (by decide)) (hB.2.1 0 (by decide)) rfl ?_
  refine z_top ((mc : Int)) (by rw [edI_row (fun m hm => by have := h52 m (by omega); omega)]; exact hN6) ?_
  refine z_icmp_ge 72 dX6_week_50 (by decide) (by omega) (by omega) (fun c_50 => ?_) (fun c_50 => ?_)
  · have em : i = mc := by omega
    subst em
    refine z_aload_n dX6_week_72 rfl ?_
    refine z_dup dX6_week_73 rfl ?_
    refine y_getI dX6_week_74 fX6_55 (hB.lt (by decide)) (hB.2.1 0 (by decide)) rfl ?_
    refine z_top ((t : Int)) (by rw [edI_row (fun m hm => by have := h52 m (by omega); omega)]; exact hN8) ?_
    refine z_iconst dX6_week_77 ?_
    refine z_iadd dX6_week_78 ?_
    refine y_putI dX6_week_79 fX6_55 (hB.lt (by decide)) (hB.2.1 0 (by decide)) rfl ?_
    refine z_iload_n dX6_week_82 rfl ?_
    refine y_ireturn dX6_week_83 rfl ?_
    refine ⟨rfl, ⟨hB, fun a h1 h2 => ?_, h24⟩, _, _, _, _, cpl.endw hC hO ht3 hRM hbk⟩
    rw [zup_ne (by omega), edI_row (fun m hm => by have := h52 m (by omega); omega)]; exact hR0 a h1 h2
  · have hi1 : i < mc := by omega
    obtain ⟨hx, hMe⟩ := hC.2.2.2.1 i hi1
    have hMb := hMe.1
    refine z_aload_n dX6_week_53 rfl ?_
    refine y_getR dX6_week_54 fX6_11 (hB.lt (by decide)) (hB.2.1 0 (by decide)) rfl (hB.2.2.1 0) ?_
    refine z_iload_n dX6_week_57 rfl ?_
    refine y_aaload dX6_week_58 (hB.lt (by decide)) (hB.2.1 1 (by decide)) (by decide) (by omega) (by decide) (by rw [Int.toNat_natCast]; exact hx) ?_
    refine z_aload_n dX6_week_59 rfl ?_
    refine y_getI dX6_week_60 fX6_55 (hB.lt (by decide)) (hB.2.1 0 (by decide)) rfl ?_
    refine z_top ((t : Int)) (by rw [edI_row (fun m hm => by have := h52 m (by omega); omega)]; exact hN8) ?_
    refine y_callV dX6_week_63 kX6_132 (c_X2_endWeek (w := t) hMb ht3) hMb.l0 hMb.2.1 rfl rfl rfl (Nat.le_of_ble_eq_true rfl) ⟨⟨Nat.le_of_ble_eq_true rfl, Nat.le_of_ble_eq_true rfl⟩, Nat.le_refl _, Nat.le_refl _⟩ (fun v63 n63 sh63 I63 P63 hp63 => ?_)
    obtain ⟨rfl, rfl, rfl, rfl, rfl⟩ := hp63
    refine z_iinc dX6_week_66 rfl (by decide) ?_
    refine z_goto 45 dX6_week_69 (by decide) ?_
    refine z_keys [0, 1, 2] ?_
    exact ih (i + 1) (by omega) (by omega)
set_option maxHeartbeats 4000000 in
set_option maxRecDepth 100000 in
theorem c_X6_week (hB : yB n sh P) {M : Nat → Nat → Int} {t mc rc pc bc c : Nat} {ma pa : Nat → Nat} {Ls : Nat → List Nat} {r rl : Nat} (hO : mOk M t mc rc pc bc c) (hC : cpl n sh I P M t mc rc pc bc ma pa Ls r rl) : yC l E jX6_week ({ frames := 6, cells := 1, slots := (if (t < 300 ∧ (bc : Int) + dn2 M t rc pc mc ≤ 20000) then wkS rl (bc + (dn2 M t rc pc mc).toNat) else 0), locals := 143 } : Room) [.ref (zb E + 0)] n sh I P (kP (.int (iI (if (t < 300 ∧ (bc : Int) + dn2 M t rc pc mc ≤ 20000) then dn2 M t rc pc mc else -1))) I P (if (t < 300 ∧ (bc : Int) + dn2 M t rc pc mc ≤ 20000) then mWe M t mc rc pc else M) (if (t < 300 ∧ (bc : Int) + dn2 M t rc pc mc ≤ 20000) then t + 1 else t) mc rc pc (if (t < 300 ∧ (bc : Int) + dn2 M t rc pc mc ≤ 20000) then bc + (dn2 M t rc pc mc).toNat else bc) (if (t < 300 ∧ (bc : Int) + dn2 M t rc pc mc ≤ 20000) then wkL rl (bc + (dn2 M t rc pc mc).toNat) else rl)) := by
  obtain ⟨hN6, hN7, hN8⟩ := hC.1
  have hb5 := hO.2.1
  refine yC_of (by decide) (Nat.le_of_ble_eq_true rfl) ?_
  refine z_aload_n dX6_week_0 rfl ?_
  refine y_getI dX6_week_1 fX6_55 (hB.lt (by decide)) (hB.2.1 0 (by decide)) rfl ?_
  refine z_top ((t : Int)) (hN8) ?_
  refine z_sipush dX6_week_4 rfl ?_
  refine z_icmp_lt 12 dX6_week_7 (by decide) (by omega) (by omega) (fun c_7 => ?_) (fun c_7 => ?_)
  · refine z_aload_n dX6_week_12 rfl ?_
    refine y_callV dX6_week_13 kX6_123 (c_X6_workAnew hB hO hC) (hB.lt (by decide)) (hB.2.1 0 (by decide)) rfl rfl rfl (Nat.le_of_ble_eq_true rfl) ⟨⟨Nat.le_of_ble_eq_true rfl, Nat.le_of_ble_eq_true rfl⟩, Nat.zero_le _, Nat.zero_le _⟩ (fun v13 n13 sh13 I13 P13 hp13 => ?_)
    obtain ⟨rfl, rfl, rfl, ⟨hB2, hrw, h24⟩, hC2, hW⟩ := hp13
    have hd2 := dn2_rng M t rc pc mc
    have hd3 : dn2 M t rc pc mc ≤ 12040 := by
      have h := Int.mul_le_mul (show (mc : Int) ≤ 40 by omega) (show (t : Int) + 1 ≤ 301 by omega) (by omega) (by decide : (0 : Int) ≤ 40)
      omega
    refine z_istore_n dX6_week_16 (by decide) ?_
    refine z_iload_n dX6_week_17 rfl ?_
    refine z_sipush dX6_week_18 rfl ?_
    refine z_aload_n dX6_week_21 rfl ?_
    refine y_getR dX6_week_22 fX6_40 (hB2.lt (by decide)) (hB2.2.1 0 (by decide)) rfl (hB2.2.2.1 4) ?_
    refine y_getI dX6_week_25 fX6_127 (hB2.lt (by decide)) (hB2.2.1 19 (by decide)) rfl ?_
    refine z_top ((bc : Int)) (hC2.2.2.2.2.2.2.2.2.2.1.1.1) ?_
    refine z_isub dX6_week_28 ?_
    refine z_icmp_le 34 dX6_week_29 (by decide) (by omega) (by omega) (fun c_29 => ?_) (fun c_29 => ?_)
    · have hok : (t < 300 ∧ (bc : Int) + dn2 M t rc pc mc ≤ 20000) := by omega
      obtain ⟨d, hd⟩ : ∃ d : Nat, dn2 M t rc pc mc = (d : Int) := ⟨(dn2 M t rc pc mc).toNat, by omega⟩
      have hdn : (dn2 M t rc pc mc).toNat = d := by omega
      simp only [if_pos hok]
      have hSt : ∀ m, m < mc → I13 (ma m) 7 = 0 → ∀ w, w ≤ t → dfm M t rc pc m w = 0 := fun m hm h8 w hw => (hC2.2.2.2.2.1 m hm h8).df hO hm hw
      have hL := hC2.2.2.2.2.2.2.2.2.2.1
      rw [hdn, hd]
      refine z_iload_n dX6_week_34 rfl ?_
      refine z_if_le 43 dX6_week_35 (by decide) (by omega) (fun c_35 => ?_) (fun c_35 => ?_)
      · have d0 : d = 0 := by omega
        subst d0
        have hz := dn2_0 hd
        have e : mB2 M (t : Int) (dfm M t rc pc) mc (t + 1) = M := mB2_0 (t + 1) hz
        have e1 : wkL rl (bc + 0) = rl := by unfold wkL; rw [if_neg (by have := hL.2.2.1; omega)]
        have e2 : mWe M t mc rc pc = mNx M t := by unfold mWe; rw [e]
        rw [e1, e2]
        refine z_widen (c2 := 1) (s2 := wkS rl (bc + 0)) (by decide) (Nat.zero_le _) ?_
        refine z_iconst dX6_week_43 ?_
        refine z_istore_n dX6_week_44 (by decide) ?_
        refine z_keys [0, 1, 2] ?_
        exact l_X6_week (M := M) (M' := M) hO hB2 hC2 (by omega) (fun _ _ _ => rfl) (fun m w hm hw => by have := hz m w hm (by omega); unfold dfm at this; omega) hrw h24 0 (by omega)
      · refine z_aload_n dX6_week_38 rfl ?_
        refine z_iload_n dX6_week_39 rfl ?_
        refine y_callV dX6_week_40 kX6_128 (c_X6_bookDifferences (d := d) hB2 hO hC2 hd (by omega) hSt hW) (hB2.lt (by decide)) (hB2.2.1 0 (by decide)) rfl rfl rfl (Nat.le_of_ble_eq_true rfl) ⟨⟨Nat.le_of_ble_eq_true rfl, Nat.le_of_ble_eq_true rfl⟩, Nat.le_refl _, Nat.le_of_eq (by show 0 + 0 + wkS rl (bc + d) = wkS rl (bc + d); omega)⟩ (fun v40 n40 sh40 I40 P40 hp40 => ?_)
        obtain ⟨rfl, ⟨hB4, hr4, h244⟩, r4, hC4⟩ := hp40
        refine z_widen (c2 := 1) (s2 := wkS rl (bc + d)) (Nat.le_refl _) (Nat.le_of_eq (by show 0 + 0 + wkS rl (bc + d) = wkS rl (bc + d); omega)) ?_
        refine z_iconst dX6_week_43 ?_
        refine z_istore_n dX6_week_44 (by decide) ?_
        refine z_keys [0, 1, 2] ?_
        refine l_X6_week (M := M) hO hB4 hC4 (by omega) (fun k h1 h2 => mB2_row h1 h2 (t + 1)) (fun m w hm hw => ?_) (fun a h1 h2 => (hr4 a h1 h2).trans (hrw a h1 h2)) (h244.trans h24) 0 (by omega)
        rw [bk_b2 (by omega) (t + 1) (by omega), if_pos ⟨hm, by omega⟩]
        unfold dfm
        omega
    · refine z_iconst dX6_week_32 ?_
      refine z_widen (c2 := 1) (s2 := (if (t < 300 ∧ (bc : Int) + dn2 M t rc pc mc ≤ 20000) then wkS rl (bc + (dn2 M t rc pc mc).toNat) else 0)) (by decide) (Nat.zero_le _) ?_
      refine y_ireturn dX6_week_33 rfl ?_
      have hno : ¬ (t < 300 ∧ (bc : Int) + dn2 M t rc pc mc ≤ 20000) := by omega
      rw [if_neg hno, if_neg hno, if_neg hno, if_neg hno, if_neg hno]
      exact ⟨rfl, ⟨hB2, hrw, h24⟩, _, _, _, _, hC2⟩
  · refine z_iconst dX6_week_10 ?_
    refine z_widen (c2 := 1) (s2 := (if (t < 300 ∧ (bc : Int) + dn2 M t rc pc mc ≤ 20000) then wkS rl (bc + (dn2 M t rc pc mc).toNat) else 0)) (by decide) (Nat.zero_le _) ?_
    refine y_ireturn dX6_week_11 rfl ?_
    have hno : ¬ (t < 300 ∧ (bc : Int) + dn2 M t rc pc mc ≤ 20000) := by omega
    rw [if_neg hno, if_neg hno, if_neg hno, if_neg hno, if_neg hno]
    exact kP.same hB hC
end BWk
