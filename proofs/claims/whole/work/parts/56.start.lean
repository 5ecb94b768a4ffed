theorem pMk_25 (b : Nat) : pMk 25 b = none := by
  unfold pMk
  rw [pM_form]
  split
  · rename_i x hx
    split at hx
    · cases hx; rw [if_neg (by omega)]
    · split at hx
      · cases hx; rw [if_neg (by omega)]
      · cases hx
  · rfl
/-- both are made: the loop begins -/
theorem LI.first {sh : Nat → Nat × Nat} {I : Nat → Nat → Int} {P : Nat → Nat → Option Nat} {cells slots : Nat} (hM : yM 52 sh P) (h1 : ∀ x, x < 24 → sh x = shF x ∧ ∀ b, I x b = iF x b ∧ (x ≠ 0 → P x b = pF x b) ∧ (x = 0 → P x b = p0 b)) (h2 : ∀ a b, 24 ≤ a → a < 52 → I a b = mNew a b) (hc : cells ≤ 60) (hs : slots ≤ 200000) : LI 52 sh I P 0 cells slots := by
  have hI : ∀ x b, x < 24 → I x b = iF x b := fun x b hx => ((h1 x hx).2 b).1
  have hP : ∀ x b, x < 24 → x ≠ 0 → P x b = pF x b := fun x b hx h0 => ((h1 x hx).2 b).2.1 h0
  have hN : ∀ a b, 24 ≤ a → a < 52 → a ≠ 43 → a ≠ 44 → I a b = 0 := fun a b g1 g2 g3 g4 => by rw [h2 a b g1 g2]; simp only [mNew, g3, g4, if_false]
  refine ⟨⟨Nat.le_refl _, hM.2.1, fun j => ((h1 0 (by omega)).2 j).2.2 rfl, fun j => hP 3 j (by omega) (by omega), fun j _ => hP 8 j (by omega) (by omega), fun j _ => hP 17 j (by omega) (by omega), fun j => hP 21 j (by omega) (by omega)⟩, hM, 0, 0, 0, 0, 0, fun _ => 0, fun _ => 0, fun _ => [], 20, 64, ?_, ?_, by omega, by omega⟩
  · refine ⟨⟨hN 24 0 (by omega) (by omega) (by omega) (by omega), hN 24 1 (by omega) (by omega) (by omega) (by omega), hN 24 2 (by omega) (by omega) (by omega) (by omega), hN 24 3 (by omega) (by omega) (by omega) (by omega), hN 24 4 (by omega) (by omega) (by omega) (by omega)⟩, by omega, ⟨fun i hi => absurd hi (Nat.not_lt_zero i), fun i hi => absurd hi (Nat.not_lt_zero i)⟩, fun i hi => absurd hi (Nat.not_lt_zero i), fun i hi => absurd hi (Nat.not_lt_zero i), ⟨fun i => ?_, fun m _ => ?_, fun m w _ _ _ => hN 28 _ (by omega) (by omega) (by omega) (by omega)⟩, ⟨fun i => ?_, fun m w _ _ _ => hN 38 _ (by omega) (by omega) (by omega) (by omega)⟩, fun i hi => ?_⟩
    · rw [hN 28 i (by omega) (by omega) (by omega) (by omega)]; omega
    · rw [show sm (pd I m) 301 = 0 from sm_0 (fun k _ => hN 28 _ (by omega) (by omega) (by omega) (by omega))]; omega
    · rw [hN 38 i (by omega) (by omega) (by omega) (by omega)]; omega
    · rw [h2 43 i (by omega) (by omega), h2 44 i (by omega) (by omega)]
      simp only [mNew, if_true, if_false, hi, show ¬ (44 = 43) by decide]
      omega
  · refine ⟨⟨hI 0 6 (by omega), hI 0 7 (by omega), hI 0 8 (by omega)⟩, ⟨hI 3 4 (by omega), fun i hi => absurd hi (Nat.not_lt_zero i), fun i hi => absurd hi (Nat.not_lt_zero _), ⟨hI 16 0 (by omega), ?_, ?_, fun c T e1 => ?_⟩, ?_⟩, ⟨?_, ?_, ?_, ?_⟩, fun i hi => absurd hi (Nat.not_lt_zero i), fun i hi => absurd hi (Nat.not_lt_zero i), fun i _ hi => absurd hi (Nat.not_lt_zero i), fun i hi => absurd hi (Nat.not_lt_zero i), fun i _ hi => absurd hi (Nat.not_lt_zero i), fun i hi => absurd hi (Nat.not_lt_zero i), ⟨⟨hI 19 1 (by omega), hP 19 0 (by omega) (by omega)⟩, ⟨Or.inl rfl, by omega, (h1 20 (by omega)).1⟩, by omega, fun i hi => absurd hi (Nat.not_lt_zero i)⟩, fun i hi => ?_⟩
    · rw [hI 3 7 (by omega)]; show -1 ≤ (-1 : Int) ∧ (-1 : Int) ≤ 201; omega
    · rw [hI 3 8 (by omega)]; show -1 ≤ (-1 : Int) ∧ (-1 : Int) ≤ 300; omega
    · rw [hI 3 7 (by omega)] at e1
      have e2 : (-1 : Int) = (c : Int) := e1
      omega
    · rw [hI 3 7 (by omega)]; show (-1 : Int) ≤ ((0 : Nat) : Int); omega
    · rw [hI 17 7 (by omega)]; show 0 ≤ (0 : Int) ∧ (0 : Int) ≤ 400; omega
    · rw [hI 17 8 (by omega)]; show 0 ≤ (0 : Int) ∧ (0 : Int) ≤ 800; omega
    · rw [hI 17 9 (by omega)]; show 0 ≤ (0 : Int) ∧ (0 : Int) ≤ 1200; omega
    · rw [hI 17 11 (by omega)]; exact Or.inl rfl
    · rw [hI 22 i (by omega), hI 23 i (by omega), h2 43 i (by omega) (by omega), h2 44 i (by omega) (by omega)]
      exact ⟨rfl, rfl⟩
set_option maxHeartbeats 4000000 in
set_option maxRecDepth 100000 in
theorem law_start {l : Launch} {E : zEnv} {b : Nat} {nm : String} (hL : zxL E ≤ 3072) : Z l E (jLw nm) room_1 (kLw E b) 0 0 (zw E 0 (fun _ => (0, 0)) (fun _ _ => 0) (fun _ _ => none)) 0 [(0, .ref (zs E 3))] [] := by
  refine y_new dL_law_0 cL_7 rfl (Nat.le_of_ble_eq_true rfl) (Nat.le_of_ble_eq_true rfl) ?_
  refine z_dup dL_law_3 rfl ?_
  refine y_callI (k := 0) dL_law_4 kL_9 (c_X6_init (by simp [zsh]) (fun b => by simp [zcl]) (fun b => by simp [zcp])) rfl rfl (Nat.le_of_ble_eq_true rfl) ⟨⟨Nat.le_of_ble_eq_true rfl, Nat.le_of_ble_eq_true rfl⟩, Nat.le_of_ble_eq_true rfl, Nat.le_of_ble_eq_true rfl⟩ (fun v4 n4 sh4 I4 P4 hp4 => ?_)
  obtain ⟨rfl, rfl, h4⟩ := hp4
  refine z_astore_n dL_law_7 (Nat.le_of_ble_eq_true rfl) ?_
  refine y_new dL_law_8 cL_10 rfl (Nat.le_of_ble_eq_true rfl) (Nat.le_of_ble_eq_true rfl) ?_
  refine z_dup dL_law_11 rfl ?_
  refine y_callI (k := 24) dL_law_12 kL_12 (c_X7_init (I0 := I4) (P0 := P4) ⟨by omega, fun a ha => ?_, fun b => ?_, fun a ha => ?_, fun a ha => ?_, fun a b h1 h2 => ?_⟩) rfl rfl (Nat.le_of_ble_eq_true rfl) ⟨⟨Nat.le_of_ble_eq_true rfl, Nat.le_of_ble_eq_true rfl⟩, Nat.le_of_ble_eq_true rfl, Nat.le_of_ble_eq_true rfl⟩ (fun v12 n12 sh12 I12 P12 hp12 => ?_)
  · by_cases e : a = 24
    · subst e; simp only [zsh, if_true]; rfl
    · simp only [zsh, e, if_false]; exact (h4 a (by omega)).1
  · rw [pMk_25]; simp [zcp]
  · funext b; simp only [zcp, show ¬ a = 24 by omega, if_false]
  · funext b; simp only [zcl, show ¬ a = 24 by omega, if_false]
  · simp only [zcl, show a = 24 by omega, if_true]
  · obtain ⟨rfl, rfl, hM, h5, h6⟩ := hp12
    refine z_astore_n dL_law_15 (Nat.le_of_ble_eq_true rfl) ?_
    refine z_iconst dL_law_16 ?_
    refine z_top ((6 * 0 : Nat) : Int) (by decide) ?_
    refine z_istore_n dL_law_17 (Nat.le_of_ble_eq_true rfl) ?_
    refine z_keys [0, 1, 2, 3] ?_
    refine law_loop hL 0 52 sh12 I12 P12 _ _ (LI.first hM (fun x hx => ?_) h6 (Nat.le_of_ble_eq_true rfl) (Nat.le_of_ble_eq_true rfl)) (Nat.zero_le _)
    obtain ⟨g1, g2, g3⟩ := h5 x hx
    rw [g1, g2, g3]
    exact ⟨rfl, (h4 x hx).2⟩
