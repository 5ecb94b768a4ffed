/-- what look() has made of c rules for the WEEKS up to T -/
def tbl (I : Nat → Nat → Int) (c T : Nat) : Prop := (∀ k w : Nat, k < 7 → w ≤ T → I (9 + k) w = (sGI I k (w : Int) c).2) ∧ ∀ w : Nat, w ≤ T → I 16 w = sm (I 9) w
/-- what Rules remembers of its last look is right -/
def cok (I : Nat → Nat → Int) : Prop := I 16 0 = 0 ∧ (-1 ≤ I 3 7 ∧ I 3 7 ≤ 201) ∧ (-1 ≤ I 3 8 ∧ I 3 8 ≤ 300) ∧ ∀ c T : Nat, I 3 7 = (c : Int) → I 3 8 = (T : Int) → tbl I c T
/-- look() writes rows 9 .. 16 and two slots of Rules alone -/
def lkF (I I' : Nat → Nat → Int) : Prop := ∀ a b, ¬ (9 ≤ a ∧ a ≤ 16) → ¬ (a = 3 ∧ (b = 7 ∨ b = 8)) → I' a b = I a b
theorem lkF.rf {I : Nat → Nat → Int} : lkF I I := fun _ _ _ _ => rfl
theorem lkF.row {I I' : Nat → Nat → Int} (h : lkF I I') {a : Nat} (ha : ¬ (9 ≤ a ∧ a ≤ 16)) (h3 : a ≠ 3) : I' a = I a := funext fun b => h a b ha (fun z => h3 z.1)
theorem lkF.up {I I' : Nat → Nat → Int} (h : lkF I I') {k j : Nat} {x : Int} (hk : (9 ≤ k ∧ k ≤ 16) ∨ (k = 3 ∧ (j = 7 ∨ j = 8))) : lkF I (zup I' k j x) := fun a b h1 h2 => by
  have e : ¬ (a = k ∧ b = j) := fun z => by rcases hk with hk | hk <;> omega
  simp only [zup, e, if_false]
  exact h a b h1 h2
theorem sGI_cong {I I' : Nat → Nat → Int} (h4 : I' 4 = I 4) (h5 : I' 5 = I 5) (h6 : I' 6 = I 6) (k : Nat) (w : Int) (c : Nat) : sGI I' k w c = sGI I k w c := by unfold sGI; rw [h4, h5, h6]
theorem lkF.sG {I I' : Nat → Nat → Int} (h : lkF I I') (k : Nat) (w : Int) (c : Nat) : sGI I' k w c = sGI I k w c := sGI_cong (h.row (by omega) (by omega)) (h.row (by omega) (by omega)) (h.row (by omega) (by omega)) k w c
/-- loop by loop: cleared; the rules written; handed on; the DUES -/
def lA (I I' : Nat → Nat → Int) (T k w : Nat) : Prop := lkF I I' ∧ I' 16 = I 16 ∧ I' 3 = I 3 ∧ ∀ k' w' : Nat, k' < 7 → w' ≤ T → (k' < k ∨ (k' = k ∧ w' < w)) → I' (9 + k') w' = -1
def lB (I I' : Nat → Nat → Int) (T i : Nat) : Prop := lkF I I' ∧ I' 16 = I 16 ∧ I' 3 = I 3 ∧ ∀ k' w' : Nat, k' < 7 → w' ≤ T → I' (9 + k') w' = fR I k' i w'
def lC (I I' : Nat → Nat → Int) (T c k : Nat) : Prop := lkF I I' ∧ I' 16 = I 16 ∧ I' 3 = I 3 ∧ ∀ k' w' : Nat, k' < 7 → w' ≤ T → I' (9 + k') w' = if k' < k then hO (fR I k' c) (af k') w' else fR I k' c w'
def lD (I I' : Nat → Nat → Int) (T c w : Nat) : Prop := lkF I I' ∧ I' 3 = I 3 ∧ (∀ k' w' : Nat, k' < 7 → w' ≤ T → I' (9 + k') w' = (sGI I k' (w' : Int) c).2) ∧ ∀ w', w' ≤ w → I' 16 w' = sm (I' 9) w'
theorem hO_cong {f g : Nat → Int} {v : Int} : ∀ {w : Nat}, (∀ k, k ≤ w → f k = g k) → hO f v w = hO g v w
  | 0, h => by unfold hO; rw [h 0 (Nat.le_refl _)]
  | w + 1, h => by unfold hO; rw [h (w + 1) (Nat.le_refl _), hO_cong (fun k hk => h k (by omega))]
theorem fR_rng {I : Nat → Nat → Int} {k : Nat} : ∀ {i w : Nat}, yRl I 4 i → -1 ≤ fR I k i w ∧ fR I k i w ≤ 400
  | 0, w, _ => ⟨Int.le_refl _, by show (-1 : Int) ≤ 400; decide⟩
  | i + 1, w, h => by
    have h1 := fR_rng (I := I) (k := k) (i := i) (w := w) (fun a ha => h a (by omega))
    have h2 : (0 ≤ I 4 i ∧ I 4 i ≤ 6) ∧ (0 ≤ I 5 i ∧ I 5 i ≤ 1000) ∧ (0 ≤ I 6 i ∧ I 6 i ≤ 400) ∧ (0 ≤ I 7 i ∧ I 7 i ≤ 300) := h i (by omega)
    rw [fR_succ]
    split
    · omega
    · exact h1
section BL
variable {l : Launch} {E : zEnv} {n : Nat} {sh : Nat → Nat × Nat} {I : Nat → Nat → Int} {P : Nat → Nat → Option Nat}
set_option maxHeartbeats 4000000 in
set_option maxRecDepth 100000 in
theorem l4_X4_look (hB : yB n sh P) {c T : Nat} (hc : c ≤ 201) (hT : T ≤ 300) (hR : yRl I 4 c) (hk0 : cok I) : ∀ w : Nat, ∀ I', lD I I' T c w → w ≤ T → Z l E jX4_look (rm 1 24) (yE E 0 0 (yS none n sh P (fun I' => lkF I I' ∧ cok I' ∧ tbl I' c T ∧ I' 3 7 = (c : Int)))) 0 0 (zw E n sh I' P) 134 [(0, .ref (zb E + 3)), (1, .int (iI c)), (2, .int (iI T)), (3, .int (iI w))] [] := by
  refine zloop (fun w : Nat => T - w) (fun w ih I' hI hw0 => ?_)
  refine z_iload_n dX4_look_134 rfl ?_
  refine z_iload_n dX4_look_135 rfl ?_
  refine z_icmp_ge 168 dX4_look_136 (by decide) (by omega) (by omega) (fun c_136 => ?_) (fun c_136 => ?_)
  · refine z_aload_n dX4_look_168 rfl ?_
    refine z_iload_n dX4_look_169 rfl ?_
    refine y_putI dX4_look_170 fX4_32 (hB.lt (by decide)) (hB.2.1 3 (by decide)) rfl ?_
    refine z_aload_n dX4_look_173 rfl ?_
    refine z_iload_n dX4_look_174 rfl ?_
    refine y_putI dX4_look_175 fX4_36 (hB.lt (by decide)) (hB.2.1 3 (by decide)) rfl ?_
    refine y_return dX4_look_178 rfl ?_
    have eT : ∀ a, a ≠ 3 → (zup (zup I' 3 7 (c : Int)) 3 8 (T : Int)) a = I' a := fun a ha => by rw [zup_ne ha, zup_ne ha]
    have htb : tbl (zup (zup I' 3 7 (c : Int)) 3 8 (T : Int)) c T := ⟨fun k' w' h1 h2 => by
      rw [eT (9 + k') (by omega), sGI_cong (I := I') (eT 4 (by omega)) (eT 5 (by omega)) (eT 6 (by omega)), hI.1.sG]; exact hI.2.2.1 k' w' h1 h2, fun w' hw' => by
      rw [eT 16 (by omega), eT 9 (by omega)]; exact hI.2.2.2 w' (by omega)⟩
    refine ⟨rfl, rfl, rfl, rfl, (hI.1.up (by omega)).up (by omega), ⟨?_, ?_, ?_, fun c' T' h1 h2 => ?_⟩, htb, by simp [zup]⟩
    · rw [eT 16 (by omega)]; exact (hI.2.2.2 0 (by omega))
    · simp [zup]; omega
    · simp [zup]; omega
    · have e1 : c' = c := by simp [zup] at h1; omega
      have e2 : T' = T := by simp [zup] at h2; omega
      subst e1; subst e2; exact htb
  · have e16 := hI.2.2.2 w (by omega)
    refine z_aload_n dX4_look_139 rfl ?_
    refine y_getR dX4_look_140 fX4_29 (hB.lt (by decide)) (hB.2.1 3 (by decide)) rfl (hB.2.2.2.1 6) ?_
    refine z_iload_n dX4_look_143 rfl ?_
    refine z_iconst dX4_look_144 ?_
    refine z_iadd dX4_look_145 ?_
    refine z_aload_n dX4_look_146 rfl ?_
    refine y_getR dX4_look_147 fX4_29 (hB.lt (by decide)) (hB.2.1 3 (by decide)) rfl (hB.2.2.2.1 6) ?_
    refine z_iload_n dX4_look_150 rfl ?_
    refine y_ialoadJ (w) dX4_look_151 (hB.lt (by decide)) (hB.2.1 16 (by decide)) (by omega) (by decide) ?_
    rw [e16]
    refine z_aload_n dX4_look_152 rfl ?_
    refine y_getR dX4_look_153 fX4_26 (hB.lt (by decide)) (hB.2.1 3 (by decide)) rfl (hB.2.2.2.1 5) ?_
    refine z_iconst dX4_look_156 ?_
    refine y_aaload dX4_look_157 (hB.lt (by decide)) (hB.2.1 8 (by decide)) (by decide) (by omega) (by decide) (hB.2.2.2.2.1 0 (by decide)) ?_
    refine z_iload_n dX4_look_158 rfl ?_
    refine y_ialoadJ (w) dX4_look_159 (hB.lt (by decide)) (hB.2.1 9 (by decide)) (by omega) (by decide) ?_
    refine z_iadd dX4_look_160 ?_
    refine y_iastoreJ (w + 1) dX4_look_161 (hB.lt (by decide)) (hB.2.1 16 (by decide)) (by omega) (by decide) ?_
    refine z_iinc dX4_look_162 rfl (by decide) ?_
    refine z_goto 134 dX4_look_165 (by decide) ?_
    refine z_keys [0, 1, 2, 3] ?_
    refine ih (w + 1) (by omega) (zup I' 16 (w + 1) (sm (I' 9) w + I' 9 w)) ⟨hI.1.up (by omega), by rw [zup_ne (by omega)]; exact hI.2.1, fun k' w' h1 h2 => by rw [zup_ne (by omega)]; exact hI.2.2.1 k' w' h1 h2, fun w' hw' => ?_⟩ (by omega)
    rw [zup_ne (show 9 ≠ 16 by omega), zup_eq]
    by_cases e : w' = w + 1
    · subst e; simp only [zu, if_true]; rfl
    · simp only [zu, e, if_false]; exact hI.2.2.2 w' (by omega)
set_option maxHeartbeats 4000000 in
set_option maxRecDepth 100000 in
theorem l3_X4_look (hB : yB n sh P) {c T : Nat} (hc : c ≤ 201) (hT : T ≤ 300) (hR : yRl I 4 c) (hk0 : cok I) : ∀ k : Nat, ∀ I', lC I I' T c k → k ≤ 7 → Z l E jX4_look (rm 1 24) (yE E 0 0 (yS none n sh P (fun I' => lkF I I' ∧ cok I' ∧ tbl I' c T ∧ I' 3 7 = (c : Int)))) 0 0 (zw E n sh I' P) 105 [(0, .ref (zb E + 3)), (1, .int (iI c)), (2, .int (iI T)), (3, .int (iI k))] [] := by
  refine zloop (fun k : Nat => 7 - k) (fun k ih I' hI hk1 => ?_)
  refine z_iload_n dX4_look_105 rfl ?_
  refine z_bipush dX4_look_106 rfl ?_
  refine z_icmp_ge 132 dX4_look_108 (by decide) (by omega) (by omega) (fun c_108 => ?_) (fun c_108 => ?_)
  · refine z_iconst dX4_look_132 ?_
    refine z_istore_n dX4_look_133 (by decide) ?_
    refine z_keys [0, 1, 2, 3] ?_
    refine l4_X4_look hB hc hT hR hk0 0 I' ⟨hI.1, hI.2.2.1, fun k' w' h1 h2 => ?_, fun w' hw' => ?_⟩ (by omega)
    · rw [hI.2.2.2 k' w' h1 h2, if_pos (by omega)]; exact fR_look hR w'
    · rw [show w' = 0 by omega, hI.2.1]; exact hk0.1
  · refine z_aload_n dX4_look_111 rfl ?_
    refine y_getR dX4_look_112 fX4_26 (hB.lt (by decide)) (hB.2.1 3 (by decide)) rfl (hB.2.2.2.1 5) ?_
    refine z_iload_n dX4_look_115 rfl ?_
    refine y_aaload dX4_look_116 (hB.lt (by decide)) (hB.2.1 8 (by decide)) (by decide) (by omega) (by decide) (hB.2.2.2.2.1 k (by omega)) ?_
    refine z_gets 2 dX4_look_117 (by decide) sX4_63 ?_
    refine z_iload_n dX4_look_120 rfl ?_
    refine z_sld 2 dX4_look_121 (by decide) (by show 0 ≤ (k : Int) ∧ (k : Int) < ((7 : Nat) : Int); omega) (by omega) ?_
    refine z_topi (iI (af k)) rfl ?_
    have hafr := af_rng (k := k) (by omega)
    refine z_iload_n dX4_look_122 rfl ?_
    refine y_callS dX4_look_123 kX4_70 (c_X4_handOn (I := I') (a := 9 + k) (T := T) (v := af k) (by have := hB.1; omega) (hB.seen (by omega)) hT (by omega) (fun w hw => by rw [hI.2.2.2 k w (by omega) hw, if_neg (by omega)]; exact fR_rng hR)) rfl rfl (Nat.le_of_ble_eq_true rfl) ⟨⟨by decide, by decide⟩, by decide, by decide⟩ (fun v123 n123 sh123 I123 P123 hp123 => ?_)
    obtain ⟨rfl, rfl, rfl, rfl, h123⟩ := hp123
    refine z_iinc dX4_look_126 rfl (by decide) ?_
    refine z_goto 105 dX4_look_129 (by decide) ?_
    refine z_keys [0, 1, 2, 3] ?_
    refine ih (k + 1) (by omega) I123 ⟨fun a b h1 h2 => by rw [h123.1 a b (by omega)]; exact hI.1 a b h1 h2, by rw [← hI.2.1]; funext b; exact h123.1 16 b (by omega), by rw [← hI.2.2.1]; funext b; exact h123.1 3 b (by omega), fun k' w' h1 h2 => ?_⟩ (by omega)
    by_cases e : k' = k
    · subst e
      rw [h123.2 w' h2, if_pos (by omega)]
      exact hO_cong (fun x hx => by rw [hI.2.2.2 k' x (by omega) (by omega), if_neg (by omega)])
    · rw [h123.1 (9 + k') w' (by omega), hI.2.2.2 k' w' h1 h2]
      by_cases hl : k' < k
      · rw [if_pos hl, if_pos (by omega)]
      · rw [if_neg hl, if_neg (by omega)]
set_option maxHeartbeats 4000000 in
set_option maxRecDepth 100000 in
theorem l2_X4_look (hB : yB n sh P) {c T : Nat} (hc : c ≤ 201) (hT : T ≤ 300) (hR : yRl I 4 c) (hk0 : cok I) : ∀ i : Nat, ∀ I', lB I I' T i → i ≤ c → Z l E jX4_look (rm 1 24) (yE E 0 0 (yS none n sh P (fun I' => lkF I I' ∧ cok I' ∧ tbl I' c T ∧ I' 3 7 = (c : Int)))) 0 0 (zw E n sh I' P) 58 [(0, .ref (zb E + 3)), (1, .int (iI c)), (2, .int (iI T)), (3, .int (iI i))] [] := by
  refine zloop (fun i : Nat => c - i) (fun i ih I' hI hi0 => ?_)
  refine z_iload_n dX4_look_58 rfl ?_
  refine z_iload_n dX4_look_59 rfl ?_
  refine z_icmp_ge 103 dX4_look_60 (by decide) (by omega) (by omega) (fun c_60 => ?_) (fun c_60 => ?_)
  · refine z_iconst dX4_look_103 ?_
    refine z_istore_n dX4_look_104 (by decide) ?_
    refine z_keys [0, 1, 2, 3] ?_
    have ei : i = c := by omega
    subst ei
    exact l3_X4_look hB hc hT hR hk0 0 I' ⟨hI.1, hI.2.1, hI.2.2.1, fun k' w' h1 h2 => by rw [if_neg (by omega)]; exact hI.2.2.2 k' w' h1 h2⟩ (by omega)
  · have hr : (0 ≤ I 4 i ∧ I 4 i ≤ 6) ∧ (0 ≤ I 5 i ∧ I 5 i ≤ 1000) ∧ (0 ≤ I 6 i ∧ I 6 i ≤ 400) ∧ (0 ≤ I 7 i ∧ I 7 i ≤ 300) := hR i (by omega)
    have e4 : I' 4 = I 4 := hI.1.row (by omega) (by omega)
    have e5 : I' 5 = I 5 := hI.1.row (by omega) (by omega)
    have e6 : I' 6 = I 6 := hI.1.row (by omega) (by omega)
    refine z_aload_n dX4_look_63 rfl ?_
    refine y_getR dX4_look_64 fX4_15 (hB.lt (by decide)) (hB.2.1 3 (by decide)) rfl (hB.2.2.2.1 1) ?_
    refine z_iload_n dX4_look_67 rfl ?_
    refine y_ialoadJ (i) dX4_look_68 (hB.lt (by decide)) (hB.2.1 5 (by decide)) (by omega) (by decide) ?_
    rw [e5]
    refine z_iload_n dX4_look_69 rfl ?_
    refine z_icmp_gt 97 dX4_look_70 (by decide) (by omega) (by omega) (fun c_70 => ?_) (fun c_70 => ?_)
    · refine z_iinc dX4_look_97 rfl (by decide) ?_
      refine z_goto 58 dX4_look_100 (by decide) ?_
      refine z_keys [0, 1, 2, 3] ?_
      refine ih (i + 1) (by omega) _ ⟨?_, ?_, ?_, fun k' w' h1 h2 => ?_⟩ (by omega)
      · first | exact hI.1.up (by omega) | exact hI.1
      · first | (rw [zup_ne (by omega)]; exact hI.2.1) | exact hI.2.1
      · first | (rw [zup_ne (by omega)]; exact hI.2.2.1) | exact hI.2.2.1
      · rw [fR_succ]
        first
          | (rw [if_neg (by omega)]; exact hI.2.2.2 k' w' h1 h2)
          | (by_cases e : k' = k ∧ w' = x
             · rw [if_pos (by omega), e.1, e.2]; simp [zup]
             · rw [if_neg (by omega)]; simp only [zup, show ¬ (9 + k' = 9 + k ∧ w' = x) by omega, if_false]; exact hI.2.2.2 k' w' h1 h2)
    · obtain ⟨k, hkk⟩ : ∃ k : Nat, I 4 i = (k : Int) := ⟨(I 4 i).toNat, by omega⟩
      obtain ⟨x, hxx⟩ : ∃ x : Nat, I 5 i = (x : Int) := ⟨(I 5 i).toNat, by omega⟩
      refine z_aload_n dX4_look_73 rfl ?_
      refine y_getR dX4_look_74 fX4_26 (hB.lt (by decide)) (hB.2.1 3 (by decide)) rfl (hB.2.2.2.1 5) ?_
      refine z_aload_n dX4_look_77 rfl ?_
      refine y_getR dX4_look_78 fX4_11 (hB.lt (by decide)) (hB.2.1 3 (by decide)) rfl (hB.2.2.2.1 0) ?_
      refine z_iload_n dX4_look_81 rfl ?_
      refine y_ialoadJ (i) dX4_look_82 (hB.lt (by decide)) (hB.2.1 4 (by decide)) (by omega) (by decide) ?_
      rw [e4, hkk]
      refine y_aaload dX4_look_83 (hB.lt (by decide)) (hB.2.1 8 (by decide)) (by decide) (by omega) (by decide) (hB.2.2.2.2.1 k (by omega)) ?_
      refine z_aload_n dX4_look_84 rfl ?_
      refine y_getR dX4_look_85 fX4_15 (hB.lt (by decide)) (hB.2.1 3 (by decide)) rfl (hB.2.2.2.1 1) ?_
      refine z_iload_n dX4_look_88 rfl ?_
      refine y_ialoadJ (i) dX4_look_89 (hB.lt (by decide)) (hB.2.1 5 (by decide)) (by omega) (by decide) ?_
      rw [e5, hxx]
      refine z_aload_n dX4_look_90 rfl ?_
      refine y_getR dX4_look_91 fX4_18 (hB.lt (by decide)) (hB.2.1 3 (by decide)) rfl (hB.2.2.2.1 2) ?_
      refine z_iload_n dX4_look_94 rfl ?_
      refine y_ialoadJ (i) dX4_look_95 (hB.lt (by decide)) (hB.2.1 6 (by decide)) (by omega) (by decide) ?_
      rw [e6]
      refine y_iastoreJ (x) dX4_look_96 (by have := hB.1; omega) (hB.seen (by omega)) (by omega) (by decide) ?_
      refine z_iinc dX4_look_97 rfl (by decide) ?_
      refine z_goto 58 dX4_look_100 (by decide) ?_
      refine z_keys [0, 1, 2, 3] ?_
      refine ih (i + 1) (by omega) _ ⟨?_, ?_, ?_, fun k' w' h1 h2 => ?_⟩ (by omega)
      · first | exact hI.1.up (by omega) | exact hI.1
      · first | (rw [zup_ne (by omega)]; exact hI.2.1) | exact hI.2.1
      · first | (rw [zup_ne (by omega)]; exact hI.2.2.1) | exact hI.2.2.1
      · rw [fR_succ]
        first
          | (rw [if_neg (by omega)]; exact hI.2.2.2 k' w' h1 h2)
          | (by_cases e : k' = k ∧ w' = x
             · rw [if_pos (by omega), e.1, e.2]; simp [zup]
             · rw [if_neg (by omega)]; simp only [zup, show ¬ (9 + k' = 9 + k ∧ w' = x) by omega, if_false]; exact hI.2.2.2 k' w' h1 h2)
set_option maxHeartbeats 4000000 in
set_option maxRecDepth 100000 in
theorem l1b_X4_look (hB : yB n sh P) {c T : Nat} (hc : c ≤ 201) (hT : T ≤ 300) (hR : yRl I 4 c) (hk0 : cok I) {k : Nat} (hk : k < 7) (hout : ∀ I', lA I I' T (k + 1) 0 → Z l E jX4_look (rm 1 24) (yE E 0 0 (yS none n sh P (fun I' => lkF I I' ∧ cok I' ∧ tbl I' c T ∧ I' 3 7 = (c : Int)))) 0 0 (zw E n sh I' P) 19 [(0, .ref (zb E + 3)), (1, .int (iI c)), (2, .int (iI T)), (3, .int (iI ((k : Int) + 1)))] []) : ∀ w : Nat, ∀ I', lA I I' T k w → w ≤ T + 1 → Z l E jX4_look (rm 1 24) (yE E 0 0 (yS none n sh P (fun I' => lkF I I' ∧ cok I' ∧ tbl I' c T ∧ I' 3 7 = (c : Int)))) 0 0 (zw E n sh I' P) 28 [(0, .ref (zb E + 3)), (1, .int (iI c)), (2, .int (iI T)), (3, .int (iI k)), (4, .int (iI w))] [] := by
  refine zloop (fun w : Nat => T + 1 - w) (fun w ih I' hI hw0 => ?_)
  refine z_iload dX4_look_28 rfl ?_
  refine z_iload_n dX4_look_30 rfl ?_
  refine z_icmp_gt 50 dX4_look_31 (by decide) (by omega) (by omega) (fun c_31 => ?_) (fun c_31 => ?_)
  · refine z_iinc dX4_look_50 rfl (by decide) ?_
    refine z_goto 19 dX4_look_53 (by decide) ?_
    refine z_keys [0, 1, 2, 3] ?_
    exact hout I' ⟨hI.1, hI.2.1, hI.2.2.1, fun k' w' h1 h2 h3 => hI.2.2.2 k' w' h1 h2 (by omega)⟩
  · refine z_aload_n dX4_look_34 rfl ?_
    refine y_getR dX4_look_35 fX4_26 (hB.lt (by decide)) (hB.2.1 3 (by decide)) rfl (hB.2.2.2.1 5) ?_
    refine z_iload_n dX4_look_38 rfl ?_
    refine y_aaload dX4_look_39 (hB.lt (by decide)) (hB.2.1 8 (by decide)) (by decide) (by omega) (by decide) (hB.2.2.2.2.1 k (by omega)) ?_
    refine z_iload dX4_look_40 rfl ?_
    refine z_iconst dX4_look_42 ?_
    refine y_iastoreJ (w) dX4_look_43 (by have := hB.1; omega) (hB.seen (by omega)) (by omega) (by decide) ?_
    refine z_iinc dX4_look_44 rfl (by decide) ?_
    refine z_goto 28 dX4_look_47 (by decide) ?_
    refine z_keys [0, 1, 2, 3, 4] ?_
    refine ih (w + 1) (by omega) _ ⟨hI.1.up (by omega), by rw [zup_ne (by omega)]; exact hI.2.1, by rw [zup_ne (by omega)]; exact hI.2.2.1, fun k' w' h1 h2 h3 => ?_⟩ (by omega)
    by_cases e : k' = k ∧ w' = w
    · rw [e.1, e.2]; simp [zup]
    · simp only [zup, show ¬ (9 + k' = 9 + k ∧ w' = w) by omega, if_false]; exact hI.2.2.2 k' w' h1 h2 (by omega)
set_option maxHeartbeats 4000000 in
set_option maxRecDepth 100000 in
theorem l1_X4_look (hB : yB n sh P) {c T : Nat} (hc : c ≤ 201) (hT : T ≤ 300) (hR : yRl I 4 c) (hk0 : cok I) : ∀ k : Nat, ∀ I', lA I I' T k 0 → k ≤ 7 → Z l E jX4_look (rm 1 24) (yE E 0 0 (yS none n sh P (fun I' => lkF I I' ∧ cok I' ∧ tbl I' c T ∧ I' 3 7 = (c : Int)))) 0 0 (zw E n sh I' P) 19 [(0, .ref (zb E + 3)), (1, .int (iI c)), (2, .int (iI T)), (3, .int (iI k))] [] := by
  refine zloop (fun k : Nat => 7 - k) (fun k ih I' hI hk1 => ?_)
  refine z_iload_n dX4_look_19 rfl ?_
  refine z_bipush dX4_look_20 rfl ?_
  refine z_icmp_ge 56 dX4_look_22 (by decide) (by omega) (by omega) (fun c_22 => ?_) (fun c_22 => ?_)
  · refine z_iconst dX4_look_56 ?_
    refine z_istore_n dX4_look_57 (by decide) ?_
    refine z_keys [0, 1, 2, 3] ?_
    exact l2_X4_look hB hc hT hR hk0 0 I' ⟨hI.1, hI.2.1, hI.2.2.1, fun k' w' h1 h2 => hI.2.2.2 k' w' h1 h2 (by omega)⟩ (by omega)
  · refine z_iconst dX4_look_25 ?_
    refine z_istore dX4_look_26 (by decide) ?_
    refine z_keys [0, 1, 2, 3, 4] ?_
    exact l1b_X4_look hB hc hT hR hk0 (by omega) (fun I'' h => ih (k + 1) (by omega) I'' h (by omega)) 0 I' hI (by omega)
set_option maxHeartbeats 4000000 in
set_option maxRecDepth 100000 in
/-- look(c, T) -/
theorem c_X4_look (hB : yB n sh P) {c T : Nat} (hc : c ≤ 201) (hT : T ≤ 300) (hR : yRl I 4 c) (hk0 : cok I) : yC l E jX4_look (rm 1 24) [.ref (zb E + 3), .int (iI c), .int (iI T)] n sh I P (yS none n sh P (fun I' => lkF I I' ∧ cok I' ∧ tbl I' c T ∧ I' 3 7 = (c : Int))) := by
  have hk1 := hk0.2.1
  have hk2 := hk0.2.2.1
  refine yC_of (by decide) (Nat.le_of_ble_eq_true rfl) ?_
  refine z_iload_n dX4_look_0 rfl ?_
  refine z_aload_n dX4_look_1 rfl ?_
  refine y_getI dX4_look_2 fX4_32 (hB.lt (by decide)) (hB.2.1 3 (by decide)) rfl ?_
  refine z_icmp_ne 17 dX4_look_5 (by decide) (by omega) (by omega) (fun c_5 => ?_) (fun c_5 => ?_)
  · refine z_iconst dX4_look_17 ?_
    refine z_istore_n dX4_look_18 (by decide) ?_
    refine z_keys [0, 1, 2, 3] ?_
    exact l1_X4_look hB hc hT hR hk0 0 I ⟨lkF.rf, rfl, rfl, fun k' w' h1 h2 h3 => by omega⟩ (by omega)
  · refine z_iload_n dX4_look_8 rfl ?_
    refine z_aload_n dX4_look_9 rfl ?_
    refine y_getI dX4_look_10 fX4_36 (hB.lt (by decide)) (hB.2.1 3 (by decide)) rfl ?_
    refine z_icmp_gt 17 dX4_look_13 (by decide) (by omega) (by omega) (fun c_13 => ?_) (fun c_13 => ?_)
    · refine z_iconst dX4_look_17 ?_
      refine z_istore_n dX4_look_18 (by decide) ?_
      refine z_keys [0, 1, 2, 3] ?_
      exact l1_X4_look hB hc hT hR hk0 0 I ⟨lkF.rf, rfl, rfl, fun k' w' h1 h2 h3 => by omega⟩ (by omega)
    · refine y_return dX4_look_16 rfl ?_
      obtain ⟨T0, hT0⟩ : ∃ T0 : Nat, I 3 8 = (T0 : Int) := ⟨(I 3 8).toNat, by omega⟩
      have ht := hk0.2.2.2 c T0 (by omega) hT0
      exact ⟨rfl, rfl, rfl, rfl, lkF.rf, hk0, ⟨fun k' w' h1 h2 => ht.1 k' w' h1 (by omega), fun w' hw' => ht.2 w' (by omega)⟩, by omega⟩
set_option maxHeartbeats 4000000 in
set_option maxRecDepth 100000 in
theorem c_X4_lookFrom (hB : yB n sh P) {s : Nat} (hs : I 3 4 = (s : Int)) (hs2 : s ≤ 200) (hR : yRl I 4 s) (hk0 : cok I) {q : Int} {T : Nat} (hq : (-2147483648 ≤ q ∧ q ≤ 2147483647)) (hT : T ≤ 300) : yC l E jX4_lookFrom (rm 2 48) [.ref (zb E + 3), .int (iI q), .int (iI T)] n sh I P (yS none n sh P (fun I' => lkF I I' ∧ cok I' ∧ tbl I' (sKn (I 7) q s) T ∧ I' 3 7 = ((sKn (I 7) q s : Nat) : Int))) := by
  refine yC_of (by decide) (Nat.le_of_ble_eq_true rfl) ?_
  refine z_aload_n dX4_lookFrom_0 rfl ?_
  refine z_aload_n dX4_lookFrom_1 rfl ?_
  refine z_iload_n dX4_lookFrom_2 rfl ?_
  refine y_callV dX4_lookFrom_3 kX4_59 (c_X4_knownIn hB hs hs2 (fun i hi => (hR i hi).2.2.2) hq) (hB.lt (by decide)) (hB.2.1 3 (by decide)) rfl rfl rfl (Nat.le_of_ble_eq_true rfl) ⟨⟨by decide, by decide⟩, by decide, by decide⟩ (fun v3 n3 sh3 I3 P3 hp3 => ?_)
  obtain ⟨rfl, rfl, rfl, rfl, rfl⟩ := hp3
  refine z_iload_n dX4_lookFrom_6 rfl ?_
  refine y_callV dX4_lookFrom_7 kX4_66 (c_X4_look (c := sKn (I 7) q s) (T := T) hB (by have := sKn_le (I 7) q s; omega) hT (fun r hr => hR r (by have := sKn_le (I 7) q s; omega)) hk0) (hB.lt (by decide)) (hB.2.1 3 (by decide)) rfl rfl rfl (Nat.le_of_ble_eq_true rfl) ⟨⟨by decide, by decide⟩, by decide, by decide⟩ (fun v7 n7 sh7 I7 P7 hp7 => ?_)
  obtain ⟨rfl, rfl, rfl, rfl, h7⟩ := hp7
  exact y_return dX4_lookFrom_10 rfl (⟨rfl, rfl, rfl, rfl, h7⟩)
end BL
theorem sGI_ext {I I' : Nat → Nat → Int} {k : Nat} {w : Int} : ∀ {c : Nat}, (∀ i, i < c → I' 4 i = I 4 i ∧ I' 5 i = I 5 i ∧ I' 6 i = I 6 i) → sGI I' k w c = sGI I k w c
  | 0, _ => rfl
  | c + 1, h => by
    have h1 := sGI_ext (I := I) (I' := I') (k := k) (w := w) (c := c) (fun i hi => h i (by omega))
    have h2 := h c (by omega)
    rw [sGI_succ, sGI_succ, h1, h2.1, h2.2.1, h2.2.2]
theorem tbl_ext {I I' : Nat → Nat → Int} {c T : Nat} (h : tbl I c T) (h1 : ∀ i, i < c → I' 4 i = I 4 i ∧ I' 5 i = I 5 i ∧ I' 6 i = I 6 i) (h2 : ∀ a, 9 ≤ a → a ≤ 16 → I' a = I a) : tbl I' c T := ⟨fun k w hk hw => by rw [h2 (9 + k) (by omega) (by omega), sGI_ext h1]; exact h.1 k w hk hw, fun w hw => by rw [h2 16 (by omega) (by omega), h2 9 (by omega) (by omega)]; exact h.2 w hw⟩
/-- what is remembered stays right where no rule that was seen, and nothing of it, is written -/
theorem cok_ext {I I' : Nat → Nat → Int} {s : Nat} (h : cok I) (hs : I 3 7 ≤ (s : Int)) (h0 : I' 3 7 = I 3 7) (h8 : I' 3 8 = I 3 8) (h1 : ∀ i, i < s → I' 4 i = I 4 i ∧ I' 5 i = I 5 i ∧ I' 6 i = I 6 i) (h2 : ∀ a, 9 ≤ a → a ≤ 16 → I' a = I a) : cok I' := by
  refine ⟨by rw [h2 16 (by omega) (by omega)]; exact h.1, by rw [h0]; exact h.2.1, by rw [h8]; exact h.2.2.1, fun c T hc hT => ?_⟩
  rw [h0] at hc
  rw [h8] at hT
  exact tbl_ext (h.2.2.2 c T hc hT) (fun i hi => h1 i (by omega)) h2
theorem bWr_ne {I : Nat → Nat → Int} {r : Nat} {k f v t : Int} {a : Nat} (h : a < 4 ∨ 7 < a) : bWr I r k f v t a = I a := by unfold bWr; rw [zup_ne (by omega), zup_ne (by omega), zup_ne (by omega), zup_ne (by omega)]
theorem bWr_at {I : Nat → Nat → Int} {r : Nat} {k f v t : Int} {a b : Nat} (h : b ≠ r) : bWr I r k f v t a b = I a b := by simp [bWr, zup, h]
theorem bWr_rl {I : Nat → Nat → Int} {r : Nat} {k f v t : Int} (hR : yRl I 4 r) (h : sRule k f v) (ht : 0 ≤ t ∧ t ≤ 300) : yRl (bWr I r k f v t) 4 (r + 1) := by
  intro i hi
  by_cases e : i = r
  · subst e
    have hz := zsf_le (k := k.toNat) (by omega)
    have e1 : bWr I i k f v t 4 i = k := by simp [bWr, zup]
    have e2 : bWr I i k f v t (4 + 1) i = f := by simp [bWr, zup]
    have e3 : bWr I i k f v t (4 + 2) i = v := by simp [bWr, zup]
    have e4 : bWr I i k f v t (4 + 3) i = t := by simp [bWr, zup]
    rw [e1, e2, e3, e4]
    exact ⟨h.1, h.2.1, by omega, ht⟩
  · have h0 := hR i (by omega)
    rw [bWr_at e, bWr_at e, bWr_at e, bWr_at e]
    exact h0
section BL2
variable {l : Launch} {E : zEnv} {n : Nat} {sh : Nat → Nat × Nat} {I : Nat → Nat → Int} {P : Nat → Nat → Option Nat}
set_option maxHeartbeats 4000000 in
set_option maxRecDepth 100000 in
theorem c_X4_suppose (hB : yB n sh P) {s : Nat} (hs : I 3 4 = (s : Int)) (hs2 : s ≤ 200) (hR : yRl I 4 s) (hk0 : cok I) (hle : I 3 7 ≤ (s : Int)) {k f v : Int} {T : Nat} (hru : sRule k f v) (hT : T ≤ 300) : yC l E jX4_suppose (rm 2 48) [.ref (zb E + 3), .int (iI k), .int (iI f), .int (iI v), .int (iI T)] n sh I P (yS none n sh P (fun I' => lkF (bWr I s k f v (T : Int)) I' ∧ cok I' ∧ tbl I' (s + 1) T ∧ I' 3 7 = ((s + 1 : Nat) : Int))) := by
  refine yC_of (by decide) (Nat.le_of_ble_eq_true rfl) ?_
  refine z_aload_n dX4_suppose_0 rfl ?_
  refine z_iload_n dX4_suppose_1 rfl ?_
  refine z_iload_n dX4_suppose_2 rfl ?_
  refine z_iload_n dX4_suppose_3 rfl ?_
  refine z_iload dX4_suppose_4 rfl ?_
  refine y_callV dX4_suppose_6 kX4_55 (c_X4_write hB hs hs2) (hB.lt (by decide)) (hB.2.1 3 (by decide)) rfl rfl rfl (Nat.le_of_ble_eq_true rfl) ⟨⟨by decide, by decide⟩, by decide, by decide⟩ (fun v6 n6 sh6 I6 P6 hp6 => ?_)
  obtain ⟨rfl, rfl, rfl, rfl, rfl⟩ := hp6
  have hk1 : cok (bWr I s k f v (T : Int)) := cok_ext hk0 hle (by rw [bWr_ne (by omega)]) (by rw [bWr_ne (by omega)]) (fun i hi => ⟨bWr_at (by omega), bWr_at (by omega), bWr_at (by omega)⟩) (fun a h1 h2 => bWr_ne (by omega))
  refine z_aload_n dX4_suppose_9 rfl ?_
  refine z_aload_n dX4_suppose_10 rfl ?_
  refine y_getI dX4_suppose_11 fX4_52 (hB.lt (by decide)) (hB.2.1 3 (by decide)) rfl ?_
  refine z_top ((s : Int)) (by rw [bWr_ne (by omega)]; exact hs) ?_
  refine z_iconst dX4_suppose_14 ?_
  refine z_iadd dX4_suppose_15 ?_
  refine z_iload dX4_suppose_16 rfl ?_
  refine y_callV dX4_suppose_18 kX4_66 (c_X4_look (I := (bWr I s k f v (T : Int))) (c := s + 1) (T := T) hB (by omega) hT (bWr_rl hR hru (by omega)) hk1) (hB.lt (by decide)) (hB.2.1 3 (by decide)) rfl rfl rfl (Nat.le_of_ble_eq_true rfl) ⟨⟨by decide, by decide⟩, by decide, by decide⟩ (fun v18 n18 sh18 I18 P18 hp18 => ?_)
  obtain ⟨rfl, rfl, rfl, rfl, h18⟩ := hp18
  exact y_return dX4_suppose_21 rfl (⟨rfl, rfl, rfl, rfl, h18⟩)
end BL2
