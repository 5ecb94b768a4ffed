set_option maxHeartbeats 4000000 in
set_option maxRecDepth 100000 in
/-- the start: what the Statement gives of it -/
theorem z_env {s : State} {b L : Nat} {xs : Nat → Int32} (hts : ∀ w ∈ lw_tbl, w.before #[Value.ref b] s = true) (hX : va_X b L xs s s.heap) (hbl : b < s.heap.size) (hgv : (Jvm.Cond.and given_1 narrow_1).before #[Value.ref b] s = true) : ∃ E : zEnv, zb E = s.heap.size ∧ zs E 3 = b ∧ zxL E = L ∧ zG E s := by
  have hz : ∀ w ∈ zwt, w.before #[Value.ref b] s = true := fun w hw => hts w (zwt_in hw)
  have hcl : ∀ k : Nat, ∃ y : ClassId × (Nat → Nat), ∀ q : vw_C, vwCl[k]? = some q → u_Kn s q.1 q.2.1 q.2.2 y.1 y.2 := by
    intro k
    have mk : ∀ {own : String} {idx ci N : Nat} {fs : List Value}, zcls own idx ci N fs → k = ci → ∃ y : ClassId × (Nat → Nat), ∀ q : vw_C, vwCl[k]? = some q → u_Kn s q.1 q.2.1 q.2.2 y.1 y.2 := by
      intro own idx ci N fs h e
      obtain ⟨C, T, ty, h1, h2, h3, h4, h5, h6, h7⟩ := h
      obtain ⟨cC, iS, hK⟩ := u_known (C := C) (T := T) (N := N) (n := N) hz h5 (hz _ h3)
      refine ⟨(cC, iS), fun q hq => ?_⟩
      rw [e, h1] at hq
      cases hq
      exact hK
    by_cases hk : k < 8
    · rcases (show k = 0 ∨ k = 1 ∨ k = 2 ∨ k = 3 ∨ k = 4 ∨ k = 5 ∨ k = 6 ∨ k = 7 by omega) with h | h | h | h | h | h | h | h
      · exact mk cX6_28 h
      · exact mk cX6_37 h
      · exact mk cX6_9 h
      · exact mk cX6_15 h
      · exact mk cX6_21 h
      · exact mk cX6_44 h
      · exact mk cL_7 h
      · exact mk cL_10 h
    · exact ⟨(0, fun _ => 0), fun q hq => by
        have h1 := (List.getElem?_eq_some_iff.mp hq).1
        have h2 : vwCl.length = 8 := rfl
        omega⟩
  obtain ⟨dd, hdd⟩ := Classical.axiomOfChoice hcl
  obtain ⟨c0, k0, m0, f0, g0, e0⟩ := Cond.arrayClass_spec (hz _ zw_int)
  obtain ⟨c1, k1, m1, f1, g1, e1⟩ := Cond.arrayClass_spec (hz _ zw_bool)
  have hA2 : (Cond.arrayOver (.object RX2)).before #[Value.ref b] s = true := hts _ (by decide +kernel)
  have hA3 : (Cond.arrayOver (.object RX3)).before #[Value.ref b] s = true := hts _ (by decide +kernel)
  have hA4 : (Cond.arrayOver (.array .int)).before #[Value.ref b] s = true := hts _ (by decide +kernel)
  obtain ⟨m2, c2, k2, f2, -, g2, e2, n2⟩ := Cond.arrayOver_spec hA2
  obtain ⟨m3, c3, k3, f3, -, g3, e3, n3⟩ := Cond.arrayOver_spec hA3
  obtain ⟨m4, c4, k4, f4, -, g4, e4, n4⟩ := zAO_spec hA4
  have hs := flat_of_before _ hgv
  have hnA : ∀ a : Nat, a < s.heap.size → ¬ (fun q : Nat => s.heap.size ≤ q) a := fun a h => Nat.not_le.mpr h
  have a0 : (Cond.arrayOf (.static RX4 "LEAST_VALUE" "[I") .int).before #[Value.ref b] s = true := hs _ (by decide +kernel)
  have l0 : (Cond.eq (.length (.static RX4 "LEAST_VALUE" "[I")) (.int 7)).before #[Value.ref b] s = true := hs _ (by decide +kernel)
  have a1 : (Cond.arrayOf (.static RX4 "MOST_VALUE" "[I") .int).before #[Value.ref b] s = true := hs _ (by decide +kernel)
  have l1 : (Cond.eq (.length (.static RX4 "MOST_VALUE" "[I")) (.int 7)).before #[Value.ref b] s = true := hs _ (by decide +kernel)
  have a2 : (Cond.arrayOf (.static RX4 "AT_FIRST" "[I") .int).before #[Value.ref b] s = true := hs _ (by decide +kernel)
  have l2 : (Cond.eq (.length (.static RX4 "AT_FIRST" "[I")) (.int 7)).before #[Value.ref b] s = true := hs _ (by decide +kernel)
  have v00 : (Cond.eq (.elem (.static RX4 "LEAST_VALUE" "[I") (.int 0)) (.int 0)).before #[Value.ref b] s = true := hs _ (by decide +kernel)
  have v01 : (Cond.eq (.elem (.static RX4 "LEAST_VALUE" "[I") (.int 1)) (.int 0)).before #[Value.ref b] s = true := hs _ (by decide +kernel)
  have v02 : (Cond.eq (.elem (.static RX4 "LEAST_VALUE" "[I") (.int 2)) (.int 0)).before #[Value.ref b] s = true := hs _ (by decide +kernel)
  have v03 : (Cond.eq (.elem (.static RX4 "LEAST_VALUE" "[I") (.int 3)) (.int 1)).before #[Value.ref b] s = true := hs _ (by decide +kernel)
  have v04 : (Cond.eq (.elem (.static RX4 "LEAST_VALUE" "[I") (.int 4)) (.int 0)).before #[Value.ref b] s = true := hs _ (by decide +kernel)
  have v05 : (Cond.eq (.elem (.static RX4 "LEAST_VALUE" "[I") (.int 5)) (.int 0)).before #[Value.ref b] s = true := hs _ (by decide +kernel)
  have v06 : (Cond.eq (.elem (.static RX4 "LEAST_VALUE" "[I") (.int 6)) (.int 0)).before #[Value.ref b] s = true := hs _ (by decide +kernel)
  have v10 : (Cond.eq (.elem (.static RX4 "MOST_VALUE" "[I") (.int 0)) (.int 100)).before #[Value.ref b] s = true := hs _ (by decide +kernel)
  have v11 : (Cond.eq (.elem (.static RX4 "MOST_VALUE" "[I") (.int 1)) (.int 14)).before #[Value.ref b] s = true := hs _ (by decide +kernel)
  have v12 : (Cond.eq (.elem (.static RX4 "MOST_VALUE" "[I") (.int 2)) (.int 100)).before #[Value.ref b] s = true := hs _ (by decide +kernel)
  have v13 : (Cond.eq (.elem (.static RX4 "MOST_VALUE" "[I") (.int 3)) (.int 400)).before #[Value.ref b] s = true := hs _ (by decide +kernel)
  have v14 : (Cond.eq (.elem (.static RX4 "MOST_VALUE" "[I") (.int 4)) (.int 400)).before #[Value.ref b] s = true := hs _ (by decide +kernel)
  have v15 : (Cond.eq (.elem (.static RX4 "MOST_VALUE" "[I") (.int 5)) (.int 400)).before #[Value.ref b] s = true := hs _ (by decide +kernel)
  have v16 : (Cond.eq (.elem (.static RX4 "MOST_VALUE" "[I") (.int 6)) (.int 50)).before #[Value.ref b] s = true := hs _ (by decide +kernel)
  have v20 : (Cond.eq (.elem (.static RX4 "AT_FIRST" "[I") (.int 0)) (.int 4)).before #[Value.ref b] s = true := hs _ (by decide +kernel)
  have v21 : (Cond.eq (.elem (.static RX4 "AT_FIRST" "[I") (.int 1)) (.int 3)).before #[Value.ref b] s = true := hs _ (by decide +kernel)
  have v22 : (Cond.eq (.elem (.static RX4 "AT_FIRST" "[I") (.int 2)) (.int 12)).before #[Value.ref b] s = true := hs _ (by decide +kernel)
  have v23 : (Cond.eq (.elem (.static RX4 "AT_FIRST" "[I") (.int 3)) (.int 30)).before #[Value.ref b] s = true := hs _ (by decide +kernel)
  have v24 : (Cond.eq (.elem (.static RX4 "AT_FIRST" "[I") (.int 4)) (.int 60)).before #[Value.ref b] s = true := hs _ (by decide +kernel)
  have v25 : (Cond.eq (.elem (.static RX4 "AT_FIRST" "[I") (.int 5)) (.int 28)).before #[Value.ref b] s = true := hs _ (by decide +kernel)
  have v26 : (Cond.eq (.elem (.static RX4 "AT_FIRST" "[I") (.int 6)) (.int 8)).before #[Value.ref b] s = true := hs _ (by decide +kernel)
  obtain ⟨t0, u0, T0⟩ := va_Tof (tm := .static RX4 "LEAST_VALUE" "[I") (ty := .int) (N := 7) (f := fun j => .int (iI (zsf 0 j))) (A := fun q : Nat => s.heap.size ≤ q) (by decide) a0 (va_eqt l0) (fun j hj => by
    rcases (show j = 0 ∨ j = 1 ∨ j = 2 ∨ j = 3 ∨ j = 4 ∨ j = 5 ∨ j = 6 by omega) with rfl | rfl | rfl | rfl | rfl | rfl | rfl
    · exact va_eqt v00
    · exact va_eqt v01
    · exact va_eqt v02
    · exact va_eqt v03
    · exact va_eqt v04
    · exact va_eqt v05
    · exact va_eqt v06) hnA
  obtain ⟨t1, u1, T1⟩ := va_Tof (tm := .static RX4 "MOST_VALUE" "[I") (ty := .int) (N := 7) (f := fun j => .int (iI (zsf 1 j))) (A := fun q : Nat => s.heap.size ≤ q) (by decide) a1 (va_eqt l1) (fun j hj => by
    rcases (show j = 0 ∨ j = 1 ∨ j = 2 ∨ j = 3 ∨ j = 4 ∨ j = 5 ∨ j = 6 by omega) with rfl | rfl | rfl | rfl | rfl | rfl | rfl
    · exact va_eqt v10
    · exact va_eqt v11
    · exact va_eqt v12
    · exact va_eqt v13
    · exact va_eqt v14
    · exact va_eqt v15
    · exact va_eqt v16) hnA
  obtain ⟨t2, u2, T2⟩ := va_Tof (tm := .static RX4 "AT_FIRST" "[I") (ty := .int) (N := 7) (f := fun j => .int (iI (zsf 2 j))) (A := fun q : Nat => s.heap.size ≤ q) (by decide) a2 (va_eqt l2) (fun j hj => by
    rcases (show j = 0 ∨ j = 1 ∨ j = 2 ∨ j = 3 ∨ j = 4 ∨ j = 5 ∨ j = 6 by omega) with rfl | rfl | rfl | rfl | rfl | rfl | rfl
    · exact va_eqt v20
    · exact va_eqt v21
    · exact va_eqt v22
    · exact va_eqt v23
    · exact va_eqt v24
    · exact va_eqt v25
    · exact va_eqt v26) hnA
  have y0 : (Cond.laysStatic RX4 "LEAST_VALUE" "[I").before #[Value.ref b] s = true := hts _ (by decide +kernel)
  have y1 : (Cond.laysStatic RX4 "MOST_VALUE" "[I").before #[Value.ref b] s = true := hts _ (by decide +kernel)
  have y2 : (Cond.laysStatic RX4 "AT_FIRST" "[I").before #[Value.ref b] s = true := hts _ (by decide +kernel)
  have yi : (Cond.initialized RX4).before #[Value.ref b] s = true := hts _ (by decide +kernel)
  have w1 : (Cond.methodLinkNest RX6 23 yX4_init RX6).before #[Value.ref b] s = true := hts _ (by decide +kernel)
  have w2 : (Cond.methodLinkNest RX6 39 yX1_init RX6).before #[Value.ref b] s = true := hts _ (by decide +kernel)
  have w3 : (Cond.methodLinkNest RX0 19 yX6_lastDayOf RX6).before #[Value.ref b] s = true := hts _ (by decide +kernel)
  refine ⟨((fun k => (dd k).1, fun k => (dd k).2), (fun k => if k = 0 then c0 else if k = 1 then c1 else if k = 2 then c2 else if k = 3 then c3 else c4), s.heap.size, (fun k => if k = 0 then t0 else if k = 1 then t1 else if k = 2 then t2 else b), (L, xs)), rfl, rfl, rfl, ?_⟩
  refine ⟨⟨fun k q hq => hdd k q hq, fun k q hq => ?_⟩, ⟨⟨hX, hbl⟩, fun k hk => ?_⟩, fun k hk => ?_, ⟨va_Nw.of rfl w1, va_Nw.of rfl w2, va_Nw.of rfl w3⟩, va_AO.of hA2, va_AO.of hA3, hA4⟩
  · have hk : k < 5 := (List.getElem?_eq_some_iff.mp hq).1
    rcases (show k = 0 ∨ k = 1 ∨ k = 2 ∨ k = 3 ∨ k = 4 by omega) with rfl | rfl | rfl | rfl | rfl
    · cases hq; exact ⟨fun N z => ⟨(fun k h => by cases h), k0, g0, m0, e0⟩, f0⟩
    · cases hq; exact ⟨fun N z => ⟨(fun k h => by cases h), k1, g1, m1, e1⟩, f1⟩
    · cases hq; exact ⟨fun N z => ⟨(fun k h => by cases h), k2, g2, m2, e2⟩, k2, m2, g2, e2, f2, n2⟩
    · cases hq; exact ⟨fun N z => ⟨(fun k h => by cases h), k3, g3, m3, e3⟩, k3, m3, g3, e3, f3, n3⟩
    · cases hq; exact ⟨fun N z => ⟨(fun k h => by cases h), k4, g4, m4, e4⟩, n4⟩
  · rcases (show k = 0 ∨ k = 1 ∨ k = 2 by omega) with rfl | rfl | rfl
    · exact T0
    · exact T1
    · exact T2
  · rcases (show k = 0 ∨ k = 1 ∨ k = 2 by omega) with rfl | rfl | rfl
    · exact va_Zref y0 yi u0 hnA
    · exact va_Zref y1 yi u1 hnA
    · exact va_Zref y2 yi u2 hnA
