section BMk
variable {l : Launch} {E : zEnv} {n : Nat} {sh : Nat → Nat × Nat} {I : Nat → Nat → Int} {P : Nat → Nat → Option Nat}
set_option maxHeartbeats 4000000 in
set_option maxRecDepth 100000 in
theorem c_X2_init {a : Nat} (hs : sh a = (0, 2)) {y d t : Int} : yC l E jX2_init ({ frames := 1, cells := 3, slots := 903, locals := 20 } : Room) [.ref (zb E + a), .int (iI y), .int (iI d), .int (iI t)] (a + 1) sh I P (fun v' n' sh' I' P' => v' = none ∧ n' = a + 4 ∧ (∀ x, x ≤ a → sh' x = sh x) ∧ (sh' (a + 1) = (1, 301) ∧ sh' (a + 2) = (1, 301) ∧ sh' (a + 3) = (1, 301)) ∧ (∀ x, x < a → I' x = I x ∧ P' x = P x) ∧ (I' a 0 = y ∧ I' a 1 = d ∧ I' a 2 = t ∧ ∀ b, 2 < b → I' a b = I a b) ∧ (∀ b, I' (a + 1) b = 0 ∧ I' (a + 2) b = 0 ∧ I' (a + 3) b = 0) ∧ (P' a 3 = some (a + 1) ∧ P' a 4 = some (a + 2) ∧ P' a 5 = some (a + 3)) ∧ ∀ b, (b < 3 ∨ 5 < b) → P' a b = P a b) := by
  refine yC_of (by decide) (Nat.le_of_ble_eq_true rfl) ?_
  refine z_aload_n dX2_init_0 rfl ?_
  refine z_objInit dX2_init_1 oX2_3 zw_oi zw_oc (by decide) (Nat.le_of_ble_eq_true rfl) ?_
  refine z_aload_n dX2_init_4 rfl ?_
  refine z_sipush dX2_init_5 rfl ?_
  refine y_newai dX2_init_8 (by omega) (by decide) (by decide) ?_
  refine y_putFR dX2_init_10 fX2_9 rfl rfl (by omega) (by simp only [zsh]; repeat (first | rw [if_neg (by omega)] | exact hs)) rfl rfl rfl ?_
  refine z_aload_n dX2_init_13 rfl ?_
  refine z_sipush dX2_init_14 rfl ?_
  refine y_newai dX2_init_17 (by omega) (by decide) (by decide) ?_
  refine y_putFR dX2_init_19 fX2_15 rfl rfl (by omega) (by simp only [zsh]; repeat (first | rw [if_neg (by omega)] | exact hs)) rfl rfl rfl ?_
  refine z_aload_n dX2_init_22 rfl ?_
  refine z_sipush dX2_init_23 rfl ?_
  refine y_newai dX2_init_26 (by omega) (by decide) (by decide) ?_
  refine y_putFR dX2_init_28 fX2_18 rfl rfl (by omega) (by simp only [zsh]; repeat (first | rw [if_neg (by omega)] | exact hs)) rfl rfl rfl ?_
  refine z_aload_n dX2_init_31 rfl ?_
  refine z_iload_n dX2_init_32 rfl ?_
  refine y_putFI dX2_init_33 fX2_21 rfl rfl (by omega) (by simp only [zsh]; repeat (first | rw [if_neg (by omega)] | exact hs)) rfl ?_
  refine z_aload_n dX2_init_36 rfl ?_
  refine z_iload_n dX2_init_37 rfl ?_
  refine y_putFI dX2_init_38 fX2_25 rfl rfl (by omega) (by simp only [zsh]; repeat (first | rw [if_neg (by omega)] | exact hs)) rfl ?_
  refine z_aload_n dX2_init_41 rfl ?_
  refine z_iload_n dX2_init_42 rfl ?_
  refine y_putFI dX2_init_43 fX2_28 rfl rfl (by omega) (by simp only [zsh]; repeat (first | rw [if_neg (by omega)] | exact hs)) rfl ?_
  refine y_return dX2_init_46 rfl ?_
  refine ⟨rfl, rfl, fun x hx => ?_, ⟨?_, ?_, ?_⟩, fun x hx => ⟨?_, ?_⟩, ⟨?_, ?_, ?_, fun b hb => ?_⟩, fun b => ⟨?_, ?_, ?_⟩, ⟨?_, ?_, ?_⟩, fun b hb => ?_⟩
  · simp only [zsh]; repeat rw [if_neg (by omega)]
  · simp [zsh, Nat.add_assoc]
  · simp [zsh, Nat.add_assoc]
  · simp [zsh, Nat.add_assoc]
  · funext b; simp [zup, zcl, show x ≠ a by omega, show x ≠ a + 1 by omega, show x ≠ a + 1 + 1 by omega, show x ≠ a + 1 + 1 + 1 by omega]
  · funext b; simp [zpu, zcp, show x ≠ a by omega, show x ≠ a + 1 by omega, show x ≠ a + 1 + 1 by omega, show x ≠ a + 1 + 1 + 1 by omega]
  · simp [zup, zcl, Nat.add_assoc]
  · simp [zup, zcl, Nat.add_assoc]
  · simp [zup, zcl, Nat.add_assoc]
  · simp [zup, zcl, Nat.add_assoc, show b ≠ 0 by omega, show b ≠ 1 by omega, show b ≠ 2 by omega]
  · simp [zup, zcl, Nat.add_assoc]
  · simp [zup, zcl, Nat.add_assoc]
  · simp [zup, zcl, Nat.add_assoc]
  · simp [zpu, zcp, Nat.add_assoc]
  · simp [zpu, zcp, Nat.add_assoc]
  · simp [zpu, zcp, Nat.add_assoc]
  · simp [zpu, zcp, Nat.add_assoc, show b ≠ 3 by omega, show b ≠ 4 by omega, show b ≠ 5 by omega]
set_option maxHeartbeats 4000000 in
set_option maxRecDepth 100000 in
theorem c_X3_init {p : Nat} (hp : p < n) (hs : sh p = (0, 3)) {m f d t : Int} : yC l E jX3_init (rm 1 20) [.ref (zb E + p), .int (iI m), .int (iI f), .int (iI d), .int (iI t)] n sh I P (yR none n sh (zup (zup (zup (zup (zup I p 4 (-1)) p 0 m) p 1 f) p 2 d) p 3 t) P) := by
  refine yC_of (by decide) (Nat.le_of_ble_eq_true rfl) ?_
  refine z_aload_n dX3_init_0 rfl ?_
  refine z_objInit dX3_init_1 oX3_3 zw_oi zw_oc (by decide) (Nat.le_of_ble_eq_true rfl) ?_
  refine z_aload_n dX3_init_4 rfl ?_
  refine z_iconst dX3_init_5 ?_
  refine y_putI dX3_init_6 fX3_9 hp hs rfl ?_
  refine z_aload_n dX3_init_9 rfl ?_
  refine z_iload_n dX3_init_10 rfl ?_
  refine y_putFI dX3_init_11 fX3_15 rfl rfl hp hs rfl ?_
  refine z_aload_n dX3_init_14 rfl ?_
  refine z_iload_n dX3_init_15 rfl ?_
  refine y_putFI dX3_init_16 fX3_18 rfl rfl hp hs rfl ?_
  refine z_aload_n dX3_init_19 rfl ?_
  refine z_iload_n dX3_init_20 rfl ?_
  refine y_putFI dX3_init_21 fX3_21 rfl rfl hp hs rfl ?_
  refine z_aload_n dX3_init_24 rfl ?_
  refine z_iload dX3_init_25 rfl ?_
  refine y_putFI dX3_init_27 fX3_24 rfl rfl hp hs rfl ?_
  exact y_return dX3_init_30 rfl (yR_rfl)
end BMk
/-! the chain of a member's papers, one more in it -/
theorem chn_ext {P P' : Nat → Nat → Option Nat} : ∀ {L : List Nat} {o : Option Nat}, (∀ x, x ∈ L → P' x 5 = P x 5) → chn P o L → chn P' o L
  | [], _, _, h => h
  | x :: t, o, hx, h => ⟨h.1, by rw [hx x List.mem_cons_self]; exact chn_ext (fun y hy => hx y (List.mem_cons_of_mem _ hy)) h.2⟩
/-- the tail of a chain -/
theorem chn_tail {P : Nat → Nat → Option Nat} {z : Nat} {Lb : List Nat} : ∀ {Lp : List Nat} {o : Option Nat}, chn P o (Lp ++ z :: Lb) → chn P (P z 5) Lb
  | [], _, h => h.2
  | _ :: _, _, h => chn_tail h.2
/-- one more behind z -/
theorem chn_ins {P P' : Nat → Nat → Option Nat} {z x : Nat} {Lb : List Nat} (hz : P' z 5 = some x) (hb : chn P' (P' x 5) Lb) : ∀ {Lp : List Nat} {o : Option Nat}, (∀ y, y ∈ Lp → P' y 5 = P y 5) → chn P o (Lp ++ z :: Lb) → chn P' o (Lp ++ z :: x :: Lb)
  | [], o, _, h => ⟨h.1, hz, hb⟩
  | y :: t, o, hy, h => ⟨h.1, by rw [hy y List.mem_cons_self]; exact chn_ins hz hb (fun u hu => hy u (List.mem_cons_of_mem _ hu)) h.2⟩
theorem srt_app {I : Nat → Nat → Int} : ∀ {A B : List Nat}, srt I (A ++ B) ↔ srt I A ∧ srt I B ∧ ∀ x y, x ∈ A → y ∈ B → I x 1 ≤ I y 1
  | [], B => ⟨fun h => ⟨trivial, h, fun x y hx => by cases hx⟩, fun h => h.2.1⟩
  | a :: A, B => by
    show ((∀ y, y ∈ A ++ B → I a 1 ≤ I y 1) ∧ srt I (A ++ B)) ↔ ((∀ y, y ∈ A → I a 1 ≤ I y 1) ∧ srt I A) ∧ srt I B ∧ ∀ x y, x ∈ a :: A → y ∈ B → I x 1 ≤ I y 1
    rw [srt_app (A := A) (B := B)]
    constructor
    · intro h
      refine ⟨⟨fun y hy => h.1 y (List.mem_append_left _ hy), h.2.1⟩, h.2.2.1, fun x y hx hy => ?_⟩
      rcases List.mem_cons.mp hx with rfl | hx
      · exact h.1 y (List.mem_append_right _ hy)
      · exact h.2.2.2 x y hx hy
    · intro h
      refine ⟨fun y hy => ?_, h.1.2, h.2.1, fun x y hx hy => h.2.2 x y (List.mem_cons_of_mem _ hx) hy⟩
      rcases List.mem_append.mp hy with hy | hy
      · exact h.1.1 y hy
      · exact h.2.2 a y List.mem_cons_self hy
theorem srt_ins {I : Nat → Nat → Int} {x : Nat} {A B : List Nat} (h : srt I (A ++ B)) (hA : ∀ y, y ∈ A → I y 1 ≤ I x 1) (hB : ∀ y, y ∈ B → I x 1 ≤ I y 1) : srt I (A ++ x :: B) := by
  rw [srt_app] at h ⊢
  refine ⟨h.1, ⟨hB, h.2.1⟩, fun u v hu hv => ?_⟩
  rcases List.mem_cons.mp hv with rfl | hv
  · exact hA u hu
  · exact h.2.2 u v hu hv
/-- what take() makes: x stands in the chain too -/
def tkP (I : Nat → Nat → Int) (P P' : Nat → Nat → Option Nat) (a x : Nat) (La : List Nat) : Prop := (∃ L', chn P' (P' a 8) L' ∧ srt I L' ∧ L'.Nodup ∧ ∀ y, y ∈ L' ↔ (y = x ∨ y ∈ La)) ∧ ∀ y b, ¬ (y = a ∧ b = 8) → ¬ (b = 5 ∧ (y = x ∨ y ∈ La)) → P' y b = P y b
theorem nodup_ins {x : Nat} {A B : List Nat} (h : (A ++ B).Nodup) (hx : ¬ x ∈ A ++ B) : (A ++ x :: B).Nodup := List.perm_middle.nodup_iff.mpr (List.nodup_cons.mpr ⟨hx, h⟩)
theorem mem_ins {x y : Nat} {A B : List Nat} : y ∈ A ++ x :: B ↔ (y = x ∨ y ∈ A ++ B) := by
  simp only [List.mem_append, List.mem_cons]
  constructor
  · rintro (h | h | h)
    · exact Or.inr (Or.inl h)
    · exact Or.inl h
    · exact Or.inr (Or.inr h)
  · rintro (h | h | h)
    · exact Or.inr (Or.inl h)
    · exact Or.inl h
    · exact Or.inr (Or.inr h)
theorem tk_first {I : Nat → Nat → Int} {P : Nat → Nat → Option Nat} {a x : Nat} {La : List Nat} (hxa : x ≠ a) (hx : ¬ x ∈ La) (ha : ¬ a ∈ La) (hc : chn P (P a 8) La) (hs : srt I La) (hn : La.Nodup) (hB : ∀ y, y ∈ La → I x 1 ≤ I y 1) : tkP I P (zpu (zpu P x 5 (P a 8)) a 8 (some x)) a x La := by
  refine ⟨⟨x :: La, ⟨by simp [zpu], ?_⟩, ⟨hB, hs⟩, List.nodup_cons.mpr ⟨hx, hn⟩, fun y => List.mem_cons⟩, fun y b h1 h2 => ?_⟩
  · rw [zpu_ne hxa, zpu_eq]
    refine chn_ext (fun y hy => ?_) hc
    rw [zpu_ne (show y ≠ a from fun e => ha (e ▸ hy)), zpu_ne (show y ≠ x from fun e => hx (e ▸ hy))]
  · simp only [zpu, h1, if_false]
    rw [if_neg (fun z => h2 ⟨z.2, Or.inl z.1⟩)]
theorem tk_in {I : Nat → Nat → Int} {P : Nat → Nat → Option Nat} {a x z : Nat} {A B : List Nat} (hxa : x ≠ a) (hx : ¬ x ∈ A ++ z :: B) (ha : ¬ a ∈ A ++ z :: B) (hc : chn P (P a 8) (A ++ z :: B)) (hs : srt I (A ++ z :: B)) (hn : (A ++ z :: B).Nodup) (hA : ∀ y, y ∈ A ++ [z] → I y 1 ≤ I x 1) (hB : ∀ y, y ∈ B → I x 1 ≤ I y 1) : tkP I P (zpu (zpu P x 5 (P z 5)) z 5 (some x)) a x (A ++ z :: B) := by
  have hzx : z ≠ x := fun e => hx (e ▸ List.mem_append_right _ List.mem_cons_self)
  have hza : z ≠ a := fun e => ha (e ▸ List.mem_append_right _ List.mem_cons_self)
  have hxB : ¬ x ∈ B := fun h => hx (List.mem_append_right _ (List.mem_cons_of_mem _ h))
  have hxA : ¬ x ∈ A := fun h => hx (List.mem_append_left _ h)
  have hzn := (List.nodup_cons.mp (List.perm_middle.nodup_iff.mp hn)).1
  have hzA : ¬ z ∈ A := fun h => hzn (List.mem_append_left _ h)
  have hzB : ¬ z ∈ B := fun h => hzn (List.mem_append_right _ h)
  have e8 : zpu (zpu P x 5 (P z 5)) z 5 (some x) a 8 = P a 8 := by rw [zpu_ne (Ne.symm hza), zpu_ne (Ne.symm hxa)]
  have h0 : A ++ z :: x :: B = (A ++ [z]) ++ x :: B := by simp
  have h1 : A ++ z :: B = (A ++ [z]) ++ B := by simp
  refine ⟨⟨A ++ z :: x :: B, ?_, ?_, ?_, fun y => ?_⟩, fun y b h1 h2 => ?_⟩
  · rw [e8]
    refine chn_ins (by simp [zpu]) ?_ (fun y hy => ?_) hc
    · rw [zpu_ne (Ne.symm hzx), zpu_eq]
      refine chn_ext (fun y hy => ?_) (chn_tail hc)
      rw [zpu_ne (show y ≠ z from fun e => hzB (e ▸ hy)), zpu_ne (show y ≠ x from fun e => hxB (e ▸ hy))]
    · rw [zpu_ne (show y ≠ z from fun e => hzA (e ▸ hy)), zpu_ne (show y ≠ x from fun e => hxA (e ▸ hy))]
  · rw [h0]
    exact srt_ins (h1 ▸ hs) hA hB
  · rw [h0]
    exact nodup_ins (h1 ▸ hn) (h1 ▸ hx)
  · rw [h0, h1]
    exact mem_ins
  · simp only [zpu]
    rw [if_neg (show ¬ (y = z ∧ b = 5) from fun q => h2 ⟨q.2, Or.inr (by rw [q.1]; exact List.mem_append_right _ List.mem_cons_self)⟩), if_neg (show ¬ (y = x ∧ b = 5) from fun q => h2 ⟨q.2, Or.inl q.1⟩)]
section BTk
variable {l : Launch} {E : zEnv} {n : Nat} {sh : Nat → Nat × Nat} {I : Nat → Nat → Int} {P : Nat → Nat → Option Nat}
set_option maxHeartbeats 4000000 in
set_option maxRecDepth 100000 in
theorem e0_X2_take {a x : Nat} (ha1 : a < n) (ha2 : sh a = (0, 2)) (hx1 : x < n) (hx2 : sh x = (0, 3)) {La : List Nat} (hpa : ∀ y, y ∈ La → yPp n sh I y) (hxf : 0 ≤ I x 1 ∧ I x 1 ≤ 2106) (hxa : x ≠ a) (hx : ¬ x ∈ La) (ha : ¬ a ∈ La) (hc : chn P (P a 8) La) (hs : srt I La) (hn : La.Nodup) (hB : ∀ y, y ∈ La → I x 1 ≤ I y 1) : Z l E jX2_take (rm 0 0) (yE E 0 0 (fun v' n' sh' I' P' => v' = none ∧ n' = n ∧ sh' = sh ∧ I' = I ∧ tkP I P P' a x La)) 0 0 (zw E n sh I P) 32 [(0, .ref (zb E + a)), (1, .ref (zb E + x)), (2, .null), (3, zrf E (P a 8))] [] := by
  have h9 := tk_first hxa hx ha hc hs hn hB
  cases hP : P a 8 with
  | none =>
    rw [hP] at h9
    show Z l E jX2_take (rm 0 0) (yE E 0 0 (fun v' n' sh' I' P' => v' = none ∧ n' = n ∧ sh' = sh ∧ I' = I ∧ tkP I P P' a x La)) 0 0 (zw E n sh I P) 32 [(0, .ref (zb E + a)), (1, .ref (zb E + x)), (2, .null), (3, .null)] []
    refine z_aload_n dX2_take_32 rfl ?_
    refine z_aload_nN dX2_take_33 rfl ?_
    refine y_putN dX2_take_34 fX2_40 hx1 hx2 rfl rfl rfl ?_
    refine z_aload_nN dX2_take_37 rfl ?_
    refine z_ifnonnullN dX2_take_38 ?_
    refine z_aload_n dX2_take_41 rfl ?_
    refine z_aload_n dX2_take_42 rfl ?_
    refine y_putR dX2_take_43 fX2_31 ha1 ha2 rfl rfl rfl ?_
    refine z_goto 54 dX2_take_46 (by decide) ?_
    refine y_return dX2_take_54 rfl ?_
    exact ⟨rfl, rfl, rfl, rfl, h9⟩
  | some y =>
    rw [hP] at h9
    show Z l E jX2_take (rm 0 0) (yE E 0 0 (fun v' n' sh' I' P' => v' = none ∧ n' = n ∧ sh' = sh ∧ I' = I ∧ tkP I P P' a x La)) 0 0 (zw E n sh I P) 32 [(0, .ref (zb E + a)), (1, .ref (zb E + x)), (2, .null), (3, .ref (zb E + y))] []
    refine z_aload_n dX2_take_32 rfl ?_
    refine z_aload_n dX2_take_33 rfl ?_
    refine y_putR dX2_take_34 fX2_40 hx1 hx2 rfl rfl rfl ?_
    refine z_aload_nN dX2_take_37 rfl ?_
    refine z_ifnonnullN dX2_take_38 ?_
    refine z_aload_n dX2_take_41 rfl ?_
    refine z_aload_n dX2_take_42 rfl ?_
    refine y_putR dX2_take_43 fX2_31 ha1 ha2 rfl rfl rfl ?_
    refine z_goto 54 dX2_take_46 (by decide) ?_
    refine y_return dX2_take_54 rfl ?_
    exact ⟨rfl, rfl, rfl, rfl, h9⟩
set_option maxHeartbeats 4000000 in
set_option maxRecDepth 100000 in
theorem e1_X2_take {a x : Nat} (ha1 : a < n) (ha2 : sh a = (0, 2)) (hx1 : x < n) (hx2 : sh x = (0, 3)) {La : List Nat} (hpa : ∀ y, y ∈ La → yPp n sh I y) (hxf : 0 ≤ I x 1 ∧ I x 1 ≤ 2106) (hxa : x ≠ a) (hx : ¬ x ∈ La) (ha : ¬ a ∈ La) (hc : chn P (P a 8) La) (hs : srt I La) (hn : La.Nodup) {A B : List Nat} {z : Nat} (hL : La = A ++ z :: B) (hA : ∀ y, y ∈ A ++ [z] → I y 1 ≤ I x 1) (hB : ∀ y, y ∈ B → I x 1 ≤ I y 1) : Z l E jX2_take (rm 0 0) (yE E 0 0 (fun v' n' sh' I' P' => v' = none ∧ n' = n ∧ sh' = sh ∧ I' = I ∧ tkP I P P' a x La)) 0 0 (zw E n sh I P) 32 [(0, .ref (zb E + a)), (1, .ref (zb E + x)), (2, .ref (zb E + z)), (3, zrf E (P z 5))] [] := by
  subst hL
  have hz := hpa z (List.mem_append_right _ List.mem_cons_self)
  have hz1 : z < n := hz.1.2
  have hz2 := hz.2.1
  have h9 := tk_in hxa hx ha hc hs hn hA hB
  cases hP : P z 5 with
  | none =>
    rw [hP] at h9
    show Z l E jX2_take (rm 0 0) (yE E 0 0 (fun v' n' sh' I' P' => v' = none ∧ n' = n ∧ sh' = sh ∧ I' = I ∧ tkP I P P' a x (A ++ z :: B))) 0 0 (zw E n sh I P) 32 [(0, .ref (zb E + a)), (1, .ref (zb E + x)), (2, .ref (zb E + z)), (3, .null)] []
    refine z_aload_n dX2_take_32 rfl ?_
    refine z_aload_nN dX2_take_33 rfl ?_
    refine y_putN dX2_take_34 fX2_40 hx1 hx2 rfl rfl rfl ?_
    refine z_aload_n dX2_take_37 rfl ?_
    refine z_ifnonnull 49 dX2_take_38 (by decide) ?_
    refine z_aload_n dX2_take_49 rfl ?_
    refine z_aload_n dX2_take_50 rfl ?_
    refine y_putR dX2_take_51 fX2_40 hz1 hz2 rfl rfl rfl ?_
    refine y_return dX2_take_54 rfl ?_
    exact ⟨rfl, rfl, rfl, rfl, h9⟩
  | some y =>
    rw [hP] at h9
    show Z l E jX2_take (rm 0 0) (yE E 0 0 (fun v' n' sh' I' P' => v' = none ∧ n' = n ∧ sh' = sh ∧ I' = I ∧ tkP I P P' a x (A ++ z :: B))) 0 0 (zw E n sh I P) 32 [(0, .ref (zb E + a)), (1, .ref (zb E + x)), (2, .ref (zb E + z)), (3, .ref (zb E + y))] []
    refine z_aload_n dX2_take_32 rfl ?_
    refine z_aload_n dX2_take_33 rfl ?_
    refine y_putR dX2_take_34 fX2_40 hx1 hx2 rfl rfl rfl ?_
    refine z_aload_n dX2_take_37 rfl ?_
    refine z_ifnonnull 49 dX2_take_38 (by decide) ?_
    refine z_aload_n dX2_take_49 rfl ?_
    refine z_aload_n dX2_take_50 rfl ?_
    refine y_putR dX2_take_51 fX2_40 hz1 hz2 rfl rfl rfl ?_
    refine y_return dX2_take_54 rfl ?_
    exact ⟨rfl, rfl, rfl, rfl, h9⟩
set_option maxHeartbeats 4000000 in
set_option maxRecDepth 100000 in
theorem l_X2_take {a x : Nat} (ha1 : a < n) (ha2 : sh a = (0, 2)) (hx1 : x < n) (hx2 : sh x = (0, 3)) {La : List Nat} (hpa : ∀ y, y ∈ La → yPp n sh I y) (hxf : 0 ≤ I x 1 ∧ I x 1 ≤ 2106) (hxa : x ≠ a) (hx : ¬ x ∈ La) (ha : ¬ a ∈ La) (hc : chn P (P a 8) La) (hs : srt I La) (hn : La.Nodup) : ∀ (B A : List Nat) (z : Nat), La = A ++ z :: B → (∀ y, y ∈ A ++ [z] → I y 1 ≤ I x 1) → Z l E jX2_take (rm 0 0) (yE E 0 0 (fun v' n' sh' I' P' => v' = none ∧ n' = n ∧ sh' = sh ∧ I' = I ∧ tkP I P P' a x La)) 0 0 (zw E n sh I P) 7 [(0, .ref (zb E + a)), (1, .ref (zb E + x)), (2, .ref (zb E + z)), (3, zrf E (P z 5))] []
  | [], A, z, hL, hA => by
    have h5 : chn P (P z 5) [] := chn_tail (Lp := A) (o := P a 8) (by rw [← hL]; exact hc)
    have h5 : P z 5 = none := h5
    have he := e1_X2_take (l := l) (E := E) (I := I) ha1 ha2 hx1 hx2 hpa hxf hxa hx ha hc hs hn hL hA (fun u hu => by cases hu)
    rw [h5] at he ⊢
    refine z_aload_nN dX2_take_7 rfl ?_
    refine z_ifnullN 32 dX2_take_8 (by decide) ?_
    exact he
  | y :: B, A, z, hL, hA => by
    have h5 : chn P (P z 5) (y :: B) := chn_tail (Lp := A) (o := P a 8) (by rw [← hL]; exact hc)
    have h5 : P z 5 = some y := h5.1
    have hy := hpa y (by rw [hL]; simp)
    have hy1 : y < n := hy.1.2
    have hy2 := hy.2.1
    have hyr := hy.2.2.1
    have hs2 : srt I (y :: B) := (srt_app.mp (show srt I ((A ++ [z]) ++ (y :: B)) by rw [hL] at hs; simpa using hs)).2.1
    have he := e1_X2_take (l := l) (E := E) (I := I) ha1 ha2 hx1 hx2 hpa hxf hxa hx ha hc hs hn (B := y :: B) hL hA
    rw [h5] at he ⊢
    refine z_aload_n dX2_take_7 rfl ?_
    refine z_ifnull dX2_take_8 ?_
    refine z_aload_n dX2_take_11 rfl ?_
    refine y_getI dX2_take_12 fX2_35 hy1 hy2 rfl ?_
    refine z_aload_n dX2_take_15 rfl ?_
    refine y_getI dX2_take_16 fX2_35 hx1 hx2 rfl ?_
    refine z_icmp_gt 32 dX2_take_19 (by decide) (by omega) (by omega) (fun c_19 => ?_) (fun c_19 => ?_)
    · refine he (fun u hu => ?_)
      rcases List.mem_cons.mp hu with rfl | hu
      · omega
      · have := hs2.1 u hu; omega
    · refine z_aload_n dX2_take_22 rfl ?_
      refine z_astore_n dX2_take_23 (by decide) ?_
      refine z_aload_n dX2_take_24 rfl ?_
      have h6 := l_X2_take ha1 ha2 hx1 hx2 hpa hxf hxa hx ha hc hs hn B (A ++ [z]) y (by rw [hL]; simp) (fun u hu => ?_)
      · cases hP : P y 5 with
        | none =>
          rw [hP] at h6
          refine y_getN dX2_take_25 fX2_40 hy1 hy2 rfl hP ?_
          refine z_astore_nN dX2_take_28 (by decide) ?_
          refine z_goto 7 dX2_take_29 (by decide) ?_
          refine z_keys [0, 1, 2, 3] ?_
          exact h6
        | some u =>
          rw [hP] at h6
          refine y_getR dX2_take_25 fX2_40 hy1 hy2 rfl hP ?_
          refine z_astore_n dX2_take_28 (by decide) ?_
          refine z_goto 7 dX2_take_29 (by decide) ?_
          refine z_keys [0, 1, 2, 3] ?_
          exact h6
      · rcases List.mem_append.mp hu with hu | hu
        · exact hA u hu
        · rw [List.mem_singleton.mp hu]; omega
set_option maxHeartbeats 4000000 in
set_option maxRecDepth 100000 in
/-- take(added) -/
theorem c_X2_take {a x : Nat} (ha1 : a < n) (ha2 : sh a = (0, 2)) (hx1 : x < n) (hx2 : sh x = (0, 3)) {La : List Nat} (hpa : ∀ y, y ∈ La → yPp n sh I y) (hxf : 0 ≤ I x 1 ∧ I x 1 ≤ 2106) (hxa : x ≠ a) (hx : ¬ x ∈ La) (ha : ¬ a ∈ La) (hc : chn P (P a 8) La) (hs : srt I La) (hn : La.Nodup) : yC l E jX2_take (rm 0 0) [.ref (zb E + a), .ref (zb E + x)] n sh I P (fun v' n' sh' I' P' => v' = none ∧ n' = n ∧ sh' = sh ∧ I' = I ∧ tkP I P P' a x La) := by
  refine yC_of (by decide) (Nat.le_of_ble_eq_true rfl) ?_
  refine z_null dX2_take_0 ?_
  refine z_astore_nN dX2_take_1 (by decide) ?_
  refine z_aload_n dX2_take_2 rfl ?_
  have he := e0_X2_take (l := l) (E := E) (I := I) ha1 ha2 hx1 hx2 hpa hxf hxa hx ha hc hs hn
  cases La with
  | nil =>
    have h8 : P a 8 = none := hc
    rw [h8] at he
    refine y_getN dX2_take_3 fX2_31 ha1 ha2 rfl h8 ?_
    refine z_astore_nN dX2_take_6 (by decide) ?_
    refine z_aload_nN dX2_take_7 rfl ?_
    refine z_ifnullN 32 dX2_take_8 (by decide) ?_
    refine z_keys [0, 1, 2, 3] ?_
    exact he (fun u hu => by cases hu)
  | cons y B =>
    have h8 : P a 8 = some y := hc.1
    have hy := hpa y List.mem_cons_self
    have hy1 : y < n := hy.1.2
    have hy2 := hy.2.1
    have hyr := hy.2.2.1
    rw [h8] at he
    refine y_getR dX2_take_3 fX2_31 ha1 ha2 rfl h8 ?_
    refine z_astore_n dX2_take_6 (by decide) ?_
    refine z_aload_n dX2_take_7 rfl ?_
    refine z_ifnull dX2_take_8 ?_
    refine z_aload_n dX2_take_11 rfl ?_
    refine y_getI dX2_take_12 fX2_35 hy1 hy2 rfl ?_
    refine z_aload_n dX2_take_15 rfl ?_
    refine y_getI dX2_take_16 fX2_35 hx1 hx2 rfl ?_
    refine z_icmp_gt 32 dX2_take_19 (by decide) (by omega) (by omega) (fun c_19 => ?_) (fun c_19 => ?_)
    · refine z_keys [0, 1, 2, 3] ?_
      refine he (fun u hu => ?_)
      rcases List.mem_cons.mp hu with rfl | hu
      · omega
      · have := hs.1 u hu; omega
    · refine z_aload_n dX2_take_22 rfl ?_
      refine z_astore_n dX2_take_23 (by decide) ?_
      refine z_aload_n dX2_take_24 rfl ?_
      have h6 := l_X2_take (l := l) (E := E) ha1 ha2 hx1 hx2 hpa hxf hxa hx ha hc hs hn B [] y rfl (fun u hu => by rw [List.mem_singleton.mp hu]; omega)
      cases hP : P y 5 with
      | none =>
        rw [hP] at h6
        refine y_getN dX2_take_25 fX2_40 hy1 hy2 rfl hP ?_
        refine z_astore_nN dX2_take_28 (by decide) ?_
        refine z_goto 7 dX2_take_29 (by decide) ?_
        refine z_keys [0, 1, 2, 3] ?_
        exact h6
      | some u =>
        rw [hP] at h6
        refine y_getR dX2_take_25 fX2_40 hy1 hy2 rfl hP ?_
        refine z_astore_n dX2_take_28 (by decide) ?_
        refine z_goto 7 dX2_take_29 (by decide) ?_
        refine z_keys [0, 1, 2, 3] ?_
        exact h6
end BTk
