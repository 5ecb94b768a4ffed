theorem pM_form (b : Nat) : pM b = if 5 ≤ b ∧ b ≤ 25 then some (b + 20) else if 27 ≤ b ∧ b ≤ 32 then some (b + 19) else none := by
  by_cases h : b < 33
  · rcases (show b = 0 ∨ b = 1 ∨ b = 2 ∨ b = 3 ∨ b = 4 ∨ b = 5 ∨ b = 6 ∨ b = 7 ∨ b = 8 ∨ b = 9 ∨ b = 10 ∨ b = 11 ∨ b = 12 ∨ b = 13 ∨ b = 14 ∨ b = 15 ∨ b = 16 ∨ b = 17 ∨ b = 18 ∨ b = 19 ∨ b = 20 ∨ b = 21 ∨ b = 22 ∨ b = 23 ∨ b = 24 ∨ b = 25 ∨ b = 26 ∨ b = 27 ∨ b = 28 ∨ b = 29 ∨ b = 30 ∨ b = 31 ∨ b = 32 by omega) with rfl | rfl | rfl | rfl | rfl | rfl | rfl | rfl | rfl | rfl | rfl | rfl | rfl | rfl | rfl | rfl | rfl | rfl | rfl | rfl | rfl | rfl | rfl | rfl | rfl | rfl | rfl | rfl | rfl | rfl | rfl | rfl | rfl <;> rfl
  · rw [if_neg (by omega), if_neg (by omega)]
    unfold pM
    rw [List.getD_eq_getElem?_getD, List.getElem?_eq_none (by show 33 ≤ b; omega)]
    rfl
/-- the reference's references as far as k cells are made -/
def pMk (k b : Nat) : Option Nat := match pM b with
  | some x => if x < k then some x else none
  | none => none
theorem pMk_succ {k j : Nat} (h : pM j = some k) (b : Nat) : pMk (k + 1) b = if b = j then some k else pMk k b := by
  unfold pMk
  by_cases e : b = j
  · subst e
    rw [h, if_pos rfl]
    show (if k < k + 1 then some k else none) = some k
    rw [if_pos (by omega)]
  · rw [if_neg e]
    cases hb : pM b with
    | none => rfl
    | some x =>
      have hne : x ≠ k := by
        intro hx
        subst hx
        rw [pM_form] at h hb
        split at h
        · split at hb
          · cases h; simp at hb; omega
          · split at hb
            · cases h; simp at hb; omega
            · cases hb
        · split at h
          · split at hb
            · cases h; simp at hb; omega
            · split at hb
              · cases h; simp at hb; omega
              · cases hb
          · cases h
      show (if x < k + 1 then some x else none) = if x < k then some x else none
      by_cases hx : x < k
      · rw [if_pos hx, if_pos (by omega)]
      · rw [if_neg hx, if_neg (by omega)]
/-- k cells are made: their shapes, their references, and nothing in the new ones; I0, P0 are those of the start -/
def pI (k : Nat) (sh : Nat → Nat × Nat) (I : Nat → Nat → Int) (P : Nat → Nat → Option Nat) (I0 : Nat → Nat → Int) (P0 : Nat → Nat → Option Nat) : Prop := (25 ≤ k ∧ k ≤ 52) ∧ (∀ a, a < k → sh a = shF a) ∧ (∀ b, P 24 b = pMk k b) ∧ (∀ a, a < 24 → P a = P0 a) ∧ (∀ a, a < 24 → I a = I0 a) ∧ ∀ a b, 24 ≤ a → a < k → I a b = 0
theorem pI.step {k j : Nat} {sh : Nat → Nat × Nat} {I : Nat → Nat → Int} {P : Nat → Nat → Option Nat} {I0 : Nat → Nat → Int} {P0 : Nat → Nat → Option Nat} (h : pI k sh I P I0 P0) {x : Nat × Nat} (hk : k < 52) (hx : shF k = x) (hj : pM j = some k) : pI (k + 1) (zsh sh k x) (zcl I k) (zpu (zcp P k) 24 j (some k)) I0 P0 := by
  obtain ⟨h0, h1, h2, h3, h4, h5⟩ := h
  refine ⟨by omega, fun a ha => ?_, fun b => ?_, fun a ha => ?_, fun a ha => ?_, fun a b ha hb => ?_⟩
  · by_cases e : a = k
    · subst e; rw [zsh, if_pos rfl, hx]
    · rw [zsh, if_neg e]; exact h1 a (by omega)
  · rw [pMk_succ hj, zpu_eq]
    show (if b = j then some k else zcp P k 24 b) = _
    rw [zcp, if_neg (show ¬ 24 = k by omega), h2 b]
  · rw [zpu_ne (by omega)]
    funext b
    rw [zcp, if_neg (by omega)]
    exact congrFun (h3 a ha) b
  · funext b
    rw [zcl, if_neg (by omega)]
    exact congrFun (h4 a ha) b
  · by_cases e : a = k
    · rw [zcl, if_pos e]
    · rw [zcl, if_neg e]; exact h5 a b ha (by omega)
theorem pI.sh24 {k : Nat} {sh : Nat → Nat × Nat} {I : Nat → Nat → Int} {P : Nat → Nat → Option Nat} {I0 : Nat → Nat → Int} {P0 : Nat → Nat → Option Nat} (h : pI k sh I P I0 P0) : sh 24 = (0, 7) := h.2.1 24 (by have := h.1; omega)
theorem pI.done {sh : Nat → Nat × Nat} {I : Nat → Nat → Int} {P : Nat → Nat → Option Nat} {I0 : Nat → Nat → Int} {P0 : Nat → Nat → Option Nat} (h : pI 52 sh I P I0 P0) : yM 52 sh P := by
  refine ⟨by omega, h.2.1, fun j => ?_⟩
  rw [h.2.2.1 j]
  unfold pMk
  cases hj : pM j with
  | none => rfl
  | some x =>
    have hx : x < 52 := by
      rw [pM_form] at hj
      split at hj
      · cases hj; omega
      · split at hj
        · cases hj; omega
        · cases hj
    show (if x < 52 then some x else none) = some x
    rw [if_pos hx]
/-- the reference as it is made -/
def mNew (a b : Nat) : Int := if a = 43 then (if b < 100 then 1000 - 10 * (b : Int) else 0) else if a = 44 then (if b < 100 then ((b / 4 : Nat) : Int) else 0) else 0
section MI
variable {l : Launch} {E : zEnv} {J : zM} {R : Room} {K : zK} {cells slots : Nat} {pc : Nat} {L : List (Nat × Value)} {st : List Value} {n : Nat} {sh : Nat → Nat × Nat} {I I0 : Nat → Nat → Int} {P P0 : Nat → Nat → Option Nat}
/-- a new row of ints into a final field of the reference -/
theorem y_nfi {k idx j : Nat} {m : Int} (hd1 : decode J.2.1 pc = .ok (.newarray .int, 2)) (hd2 : decode J.2.1 (pc + 2) = .ok (.putfield idx, 3)) (hf : zfld J.1.cls idx 7 j true (.array .int)) (hown : vwCl[7]?.map (fun q => q.1) = some J.1.cls) (hin : J.1.name = "<init>") (h : pI k sh I P I0 P0) (hk : k < 52) (hx : shF k = (1, m.toNat)) (hj : pM j = some k) (hkj : (zks 7)[j]? = some false) (hm : 0 ≤ m ∧ m ≤ 134217728) (h1 : cells + 1 ≤ R.cells) (h2 : slots + m.toNat ≤ R.slots)
    (kk : ∀ sh' I' P', pI (k + 1) sh' I' P' I0 P0 → Z l E J R K (cells + 1) (slots + m.toNat) (zw E (k + 1) sh' I' P') (pc + 2 + 3) L st) : Z l E J R K cells slots (zw E k sh I P) pc L (.int (iI m) :: .ref (zb E + 24) :: st) := by
  have h0 := h.1
  refine y_newai hd1 hm h1 h2 ?_
  refine y_putFR hd2 hf hown hin (by omega) (by rw [zsh, if_neg (by omega)]; exact h.sh24) hkj rfl rfl ?_
  exact kk _ _ _ (h.step hk hx hj)
theorem y_nfz {k idx j : Nat} {m : Int} (hd1 : decode J.2.1 pc = .ok (.newarray .boolean, 2)) (hd2 : decode J.2.1 (pc + 2) = .ok (.putfield idx, 3)) (hf : zfld J.1.cls idx 7 j true (.array .boolean)) (hown : vwCl[7]?.map (fun q => q.1) = some J.1.cls) (hin : J.1.name = "<init>") (h : pI k sh I P I0 P0) (hk : k < 52) (hx : shF k = (2, m.toNat)) (hj : pM j = some k) (hkj : (zks 7)[j]? = some false) (hm : 0 ≤ m ∧ m ≤ 134217728) (h1 : cells + 1 ≤ R.cells) (h2 : slots + m.toNat ≤ R.slots)
    (kk : ∀ sh' I' P', pI (k + 1) sh' I' P' I0 P0 → Z l E J R K (cells + 1) (slots + m.toNat) (zw E (k + 1) sh' I' P') (pc + 2 + 3) L st) : Z l E J R K cells slots (zw E k sh I P) pc L (.int (iI m) :: .ref (zb E + 24) :: st) := by
  have h0 := h.1
  refine y_newaz hd1 hm h1 h2 ?_
  refine y_putFR hd2 hf hown hin (by omega) (by rw [zsh, if_neg (by omega)]; exact h.sh24) hkj rfl rfl ?_
  exact kk _ _ _ (h.step hk hx hj)
end MI
section MI2
variable {l : Launch} {E : zEnv} {n : Nat} {sh : Nat → Nat × Nat} {I : Nat → Nat → Int} {P : Nat → Nat → Option Nat}
set_option maxHeartbeats 4000000 in
set_option maxRecDepth 100000 in
theorem l_X7_init {I0 : Nat → Nat → Int} {P0 : Nat → Nat → Option Nat} (hM : yM 52 sh P) (hP : ∀ a, a < 24 → P a = P0 a) : ∀ a : Nat, ∀ I' : Nat → Nat → Int, (∀ a, a < 24 → I' a = I0 a) ∧ (∀ i b, 24 ≤ i → i < 52 → I' i b = if b < a then mNew i b else if (i = 43 ∨ i = 44) then 0 else mNew i b) → a ≤ 100 → Z l E jX7_init ({ frames := 1, cells := 27, slots := 127274, locals := 20 } : Room) (yE E 27 127274 (fun v' n' sh' I' P' => v' = none ∧ n' = 52 ∧ yM 52 sh' P' ∧ (∀ a, a < 24 → sh' a = shF a ∧ I' a = I0 a ∧ P' a = P0 a) ∧ ∀ a b, 24 ≤ a → a < 52 → I' a b = mNew a b)) 27 127274 (zw E 52 sh I' P) 244 [(0, .ref (zb E + 24)), (1, .int (iI a))] [] := by
  refine zloop (fun a : Nat => 100 - a) (fun a ih I' hI ha0 => ?_)
  refine z_iload_n dX7_init_244 rfl ?_
  refine z_bipush dX7_init_245 rfl ?_
  refine z_icmp_ge 279 dX7_init_247 (by decide) (by omega) (by omega) (fun c_247 => ?_) (fun c_247 => ?_)
  · refine y_return dX7_init_279 rfl ⟨rfl, rfl, hM, fun i hi => ⟨hM.2.1 i (by omega), hI.1 i hi, hP i hi⟩, fun i b h1 h2 => ?_⟩
    rw [hI.2 i b h1 h2]
    by_cases hl : b < a
    · rw [if_pos hl]
    · rw [if_neg hl]
      unfold mNew
      by_cases e3 : i = 43
      · rw [if_pos (Or.inl e3), if_pos e3, if_neg (by omega)]
      · by_cases e4 : i = 44
        · rw [if_pos (Or.inr e4), if_neg e3, if_pos e4, if_neg (by omega)]
        · rw [if_neg (by omega), if_neg e3, if_neg e4]
  · refine z_aload_n dX7_init_250 rfl ?_
    refine y_getR dX7_init_251 fX7_64 (hM.lt (by decide)) (hM.2.1 24 (by decide)) rfl (hM.2.2 23) ?_
    refine z_iload_n dX7_init_254 rfl ?_
    refine z_sipush dX7_init_255 rfl ?_
    refine z_bipush dX7_init_258 rfl ?_
    refine z_iload_n dX7_init_260 rfl ?_
    refine z_imul dX7_init_261 ?_
    refine z_isub dX7_init_262 ?_
    refine y_iastoreJ (a) dX7_init_263 (hM.lt (by decide)) (hM.2.1 43 (by decide)) (by omega) (by decide) ?_
    refine z_aload_n dX7_init_264 rfl ?_
    refine y_getR dX7_init_265 fX7_67 (hM.lt (by decide)) (hM.2.1 24 (by decide)) rfl (hM.2.2 24) ?_
    refine z_iload_n dX7_init_268 rfl ?_
    refine z_iload_n dX7_init_269 rfl ?_
    refine z_iconst dX7_init_270 ?_
    refine z_idiv dX7_init_271 (by omega) (by omega) ?_
    refine z_top (((a / 4 : Nat) : Int)) (by rw [Int.tdiv_eq_ediv_of_nonneg (by omega)]; omega) ?_
    refine y_iastoreJ (a) dX7_init_272 (hM.lt (by decide)) (hM.2.1 44 (by decide)) (by omega) (by decide) ?_
    refine z_iinc dX7_init_273 rfl (by decide) ?_
    refine z_goto 244 dX7_init_276 (by decide) ?_
    refine z_keys [0, 1] ?_
    refine ih (a + 1) (by omega) _ ⟨fun i hi => ?_, fun i b h1 h2 => ?_⟩ (by omega)
    · rw [zup_ne (by omega), zup_ne (by omega)]; exact hI.1 i hi
    · have hb := hI.2 i b h1 h2
      by_cases e3 : i = 43
      · subst e3
        rw [zup_ne (by omega), zup_eq]
        by_cases eb : b = a
        · subst eb; simp [zu, mNew, show b < 100 by omega]
        · simp only [zu, eb, if_false]; rw [hb]
          by_cases hl : b < a
          · rw [if_pos hl, if_pos (show b < a + 1 by omega)]
          · rw [if_neg hl, if_neg (show ¬ b < a + 1 by omega)]; simp
      · by_cases e4 : i = 44
        · subst e4
          rw [zup_eq]
          by_cases eb : b = a
          · subst eb; simp [zu, mNew, show b < 100 by omega]
          · simp only [zu, eb, if_false]; rw [zup_ne (by omega), hb]
            by_cases hl : b < a
            · rw [if_pos hl, if_pos (show b < a + 1 by omega)]
            · rw [if_neg hl, if_neg (show ¬ b < a + 1 by omega)]; simp
        · rw [zup_ne (by omega), zup_ne (by omega), hb]
          have e0 : ¬ (i = 43 ∨ i = 44) := by omega
          rw [if_neg e0]; split <;> split <;> rfl
set_option maxHeartbeats 4000000 in
set_option maxRecDepth 100000 in
/-- BreadBoxModel(): 27 rows -/
theorem c_X7_init {I0 : Nat → Nat → Int} {P0 : Nat → Nat → Option Nat} (h : pI 25 sh I P I0 P0) : yC l E jX7_init ({ frames := 1, cells := 27, slots := 127274, locals := 20 } : Room) [.ref (zb E + 24)] 25 sh I P (fun v' n' sh' I' P' => v' = none ∧ n' = 52 ∧ yM 52 sh' P' ∧ (∀ a, a < 24 → sh' a = shF a ∧ I' a = I0 a ∧ P' a = P0 a) ∧ ∀ a b, 24 ≤ a → a < 52 → I' a b = mNew a b) := by
  refine yC_of (by decide) (Nat.le_of_ble_eq_true rfl) ?_
  refine z_aload_n dX7_init_0 rfl ?_
  refine z_objInit dX7_init_1 oX7_1 zw_oi zw_oc (by decide) (Nat.le_of_ble_eq_true rfl) ?_
  have h25 := h
  refine z_aload_n dX7_init_4 rfl ?_
  refine z_bipush dX7_init_5 rfl ?_
  refine y_nfi (k := 25) (j := 5) dX7_init_7 dX7_init_9 fX7_9 rfl rfl h25 (by decide) rfl rfl rfl (by omega) (by decide) (by decide) (fun sh26 I26 P26 h26 => ?_)
  refine z_aload_n dX7_init_12 rfl ?_
  refine z_bipush dX7_init_13 rfl ?_
  refine y_nfi (k := 26) (j := 6) dX7_init_15 dX7_init_17 fX7_13 rfl rfl h26 (by decide) rfl rfl rfl (by omega) (by decide) (by decide) (fun sh27 I27 P27 h27 => ?_)
  refine z_aload_n dX7_init_20 rfl ?_
  refine z_bipush dX7_init_21 rfl ?_
  refine y_nfi (k := 27) (j := 7) dX7_init_23 dX7_init_25 fX7_16 rfl rfl h27 (by decide) rfl rfl rfl (by omega) (by decide) (by decide) (fun sh28 I28 P28 h28 => ?_)
  refine z_aload_n dX7_init_28 rfl ?_
  refine z_sipush dX7_init_29 rfl ?_
  refine y_nfi (k := 28) (j := 8) dX7_init_32 dX7_init_34 fX7_19 rfl rfl h28 (by decide) rfl rfl rfl (by omega) (by decide) (by decide) (fun sh29 I29 P29 h29 => ?_)
  refine z_aload_n dX7_init_37 rfl ?_
  refine z_sipush dX7_init_38 rfl ?_
  refine y_nfi (k := 29) (j := 9) dX7_init_41 dX7_init_43 fX7_22 rfl rfl h29 (by decide) rfl rfl rfl (by omega) (by decide) (by decide) (fun sh30 I30 P30 h30 => ?_)
  refine z_aload_n dX7_init_46 rfl ?_
  refine z_sipush dX7_init_47 rfl ?_
  refine y_nfi (k := 30) (j := 10) dX7_init_50 dX7_init_52 fX7_25 rfl rfl h30 (by decide) rfl rfl rfl (by omega) (by decide) (by decide) (fun sh31 I31 P31 h31 => ?_)
  refine z_aload_n dX7_init_55 rfl ?_
  refine z_sipush dX7_init_56 rfl ?_
  refine y_nfi (k := 31) (j := 11) dX7_init_59 dX7_init_61 fX7_28 rfl rfl h31 (by decide) rfl rfl rfl (by omega) (by decide) (by decide) (fun sh32 I32 P32 h32 => ?_)
  refine z_aload_n dX7_init_64 rfl ?_
  refine z_sipush dX7_init_65 rfl ?_
  refine y_nfi (k := 32) (j := 12) dX7_init_68 dX7_init_70 fX7_31 rfl rfl h32 (by decide) rfl rfl rfl (by omega) (by decide) (by decide) (fun sh33 I33 P33 h33 => ?_)
  refine z_aload_n dX7_init_73 rfl ?_
  refine z_sipush dX7_init_74 rfl ?_
  refine y_nfi (k := 33) (j := 13) dX7_init_77 dX7_init_79 fX7_34 rfl rfl h33 (by decide) rfl rfl rfl (by omega) (by decide) (by decide) (fun sh34 I34 P34 h34 => ?_)
  refine z_aload_n dX7_init_82 rfl ?_
  refine z_sipush dX7_init_83 rfl ?_
  refine y_nfi (k := 34) (j := 14) dX7_init_86 dX7_init_88 fX7_37 rfl rfl h34 (by decide) rfl rfl rfl (by omega) (by decide) (by decide) (fun sh35 I35 P35 h35 => ?_)
  refine z_aload_n dX7_init_91 rfl ?_
  refine z_sipush dX7_init_92 rfl ?_
  refine y_nfi (k := 35) (j := 15) dX7_init_95 dX7_init_97 fX7_40 rfl rfl h35 (by decide) rfl rfl rfl (by omega) (by decide) (by decide) (fun sh36 I36 P36 h36 => ?_)
  refine z_aload_n dX7_init_100 rfl ?_
  refine z_sipush dX7_init_101 rfl ?_
  refine y_nfi (k := 36) (j := 16) dX7_init_104 dX7_init_106 fX7_43 rfl rfl h36 (by decide) rfl rfl rfl (by omega) (by decide) (by decide) (fun sh37 I37 P37 h37 => ?_)
  refine z_aload_n dX7_init_109 rfl ?_
  refine z_sipush dX7_init_110 rfl ?_
  refine y_nfi (k := 37) (j := 17) dX7_init_113 dX7_init_115 fX7_46 rfl rfl h37 (by decide) rfl rfl rfl (by omega) (by decide) (by decide) (fun sh38 I38 P38 h38 => ?_)
  refine z_aload_n dX7_init_118 rfl ?_
  refine z_sipush dX7_init_119 rfl ?_
  refine y_nfi (k := 38) (j := 18) dX7_init_122 dX7_init_124 fX7_49 rfl rfl h38 (by decide) rfl rfl rfl (by omega) (by decide) (by decide) (fun sh39 I39 P39 h39 => ?_)
  refine z_aload_n dX7_init_127 rfl ?_
  refine z_sipush dX7_init_128 rfl ?_
  refine y_nfi (k := 39) (j := 19) dX7_init_131 dX7_init_133 fX7_52 rfl rfl h39 (by decide) rfl rfl rfl (by omega) (by decide) (by decide) (fun sh40 I40 P40 h40 => ?_)
  refine z_aload_n dX7_init_136 rfl ?_
  refine z_sipush dX7_init_137 rfl ?_
  refine y_nfi (k := 40) (j := 20) dX7_init_140 dX7_init_142 fX7_55 rfl rfl h40 (by decide) rfl rfl rfl (by omega) (by decide) (by decide) (fun sh41 I41 P41 h41 => ?_)
  refine z_aload_n dX7_init_145 rfl ?_
  refine z_sipush dX7_init_146 rfl ?_
  refine y_nfi (k := 41) (j := 21) dX7_init_149 dX7_init_151 fX7_58 rfl rfl h41 (by decide) rfl rfl rfl (by omega) (by decide) (by decide) (fun sh42 I42 P42 h42 => ?_)
  refine z_aload_n dX7_init_154 rfl ?_
  refine z_sipush dX7_init_155 rfl ?_
  refine y_nfi (k := 42) (j := 22) dX7_init_158 dX7_init_160 fX7_61 rfl rfl h42 (by decide) rfl rfl rfl (by omega) (by decide) (by decide) (fun sh43 I43 P43 h43 => ?_)
  refine z_aload_n dX7_init_163 rfl ?_
  refine z_bipush dX7_init_164 rfl ?_
  refine y_nfi (k := 43) (j := 23) dX7_init_166 dX7_init_168 fX7_64 rfl rfl h43 (by decide) rfl rfl rfl (by omega) (by decide) (by decide) (fun sh44 I44 P44 h44 => ?_)
  refine z_aload_n dX7_init_171 rfl ?_
  refine z_bipush dX7_init_172 rfl ?_
  refine y_nfi (k := 44) (j := 24) dX7_init_174 dX7_init_176 fX7_67 rfl rfl h44 (by decide) rfl rfl rfl (by omega) (by decide) (by decide) (fun sh45 I45 P45 h45 => ?_)
  refine z_aload_n dX7_init_179 rfl ?_
  refine z_sipush dX7_init_180 rfl ?_
  refine y_nfi (k := 45) (j := 25) dX7_init_183 dX7_init_185 fX7_70 rfl rfl h45 (by decide) rfl rfl rfl (by omega) (by decide) (by decide) (fun sh46 I46 P46 h46 => ?_)
  refine z_aload_n dX7_init_188 rfl ?_
  refine z_sipush dX7_init_189 rfl ?_
  refine y_nfi (k := 46) (j := 27) dX7_init_192 dX7_init_194 fX7_73 rfl rfl h46 (by decide) rfl rfl rfl (by omega) (by decide) (by decide) (fun sh47 I47 P47 h47 => ?_)
  refine z_aload_n dX7_init_197 rfl ?_
  refine z_sipush dX7_init_198 rfl ?_
  refine y_nfi (k := 47) (j := 28) dX7_init_201 dX7_init_203 fX7_76 rfl rfl h47 (by decide) rfl rfl rfl (by omega) (by decide) (by decide) (fun sh48 I48 P48 h48 => ?_)
  refine z_aload_n dX7_init_206 rfl ?_
  refine z_sipush dX7_init_207 rfl ?_
  refine y_nfz (k := 48) (j := 29) dX7_init_210 dX7_init_212 fX7_79 rfl rfl h48 (by decide) rfl rfl rfl (by omega) (by decide) (by decide) (fun sh49 I49 P49 h49 => ?_)
  refine z_aload_n dX7_init_215 rfl ?_
  refine z_sipush dX7_init_216 rfl ?_
  refine y_nfz (k := 49) (j := 30) dX7_init_219 dX7_init_221 fX7_83 rfl rfl h49 (by decide) rfl rfl rfl (by omega) (by decide) (by decide) (fun sh50 I50 P50 h50 => ?_)
  refine z_aload_n dX7_init_224 rfl ?_
  refine z_sipush dX7_init_225 rfl ?_
  refine y_nfi (k := 50) (j := 31) dX7_init_228 dX7_init_230 fX7_86 rfl rfl h50 (by decide) rfl rfl rfl (by omega) (by decide) (by decide) (fun sh51 I51 P51 h51 => ?_)
  refine z_aload_n dX7_init_233 rfl ?_
  refine z_sipush dX7_init_234 rfl ?_
  refine y_nfi (k := 51) (j := 32) dX7_init_237 dX7_init_239 fX7_89 rfl rfl h51 (by decide) rfl rfl rfl (by omega) (by decide) (by decide) (fun sh52 I52 P52 h52 => ?_)
  refine z_iconst dX7_init_242 ?_
  refine z_istore_n dX7_init_243 (by decide) ?_
  refine z_keys [0, 1] ?_
  refine z_widen (c2 := 27) (s2 := 127274) (by decide) (by decide) ?_
  refine l_X7_init h52.done h52.2.2.2.1 0 I52 ⟨h52.2.2.2.2.1, fun i b h1 h2 => ?_⟩ (by omega)
  rw [h52.2.2.2.2.2 i b h1 h2, if_neg (by omega)]
  split
  · rfl
  · unfold mNew; rw [if_neg (by omega), if_neg (by omega)]
end MI2
