theorem zwd1 : Cond.classLink RX4 24 "[[I" ∈ zwt := zt1 (i := 30) (by decide +kernel) rfl
theorem zwd2 : Cond.classLink RX6 9 RX2 ∈ zwt := zt1 (i := 20) (by decide +kernel) rfl
theorem zwd3 : Cond.classLink RX6 15 RX3 ∈ zwt := zt1 (i := 22) (by decide +kernel) rfl
section BCt
variable {l : Launch} {E : zEnv} {J : zM} {R : Room} {K : zK} {cells slots : Nat} {ws : List va_E} {pc : Nat} {L : List (Nat × Value)} {st : List Value}
theorem zl_app : ∀ (ws xs : List va_E) (b : Nat), zl b (ws ++ xs) = zl b ws ++ zl (b + ws.length) xs
  | [], xs, b => by simp [zl]
  | x :: t, xs, b => by rw [List.cons_append, zl, zl, zl_app t xs (b + 1), List.cons_append, List.length_cons, show b + 1 + t.length = b + (t.length + 1) by omega]
theorem zH.many {H H1 : Heap} {xs : List va_E} (hH : zH E ws H) (hz : H1.size = H.size + xs.length) (ho : ∀ q, q < H.size → H1[q]? = H[q]?) (hx : ∀ i x, xs[i]? = some x → va_at (zD E) vwCl (H.size + i, x) H1) : zH E (ws ++ xs) H1 := by
  refine ⟨by rw [hz, hH.1, List.length_append]; omega, ?_⟩
  rw [zl_app, ← hH.1]
  refine va_P.app (hH.2.kept fun k q hq => ho _ (hH.2 k q hq).lt) (fun k q hk => ?_)
  have h := zl_at' hk
  have h2 := hx k q.2 h.2
  rw [← h.1] at h2
  exact h2
set_option maxHeartbeats 4000000 in
/-- new int[7][301] -/
theorem z_multi {idx : Nat} (hd : decode J.2.1 pc = .ok (.multianewarray idx 2, 4)) (hw : Cond.classLink J.1.cls idx "[[I" ∈ zwt) (h1 : cells + 8 ≤ R.cells) (h2 : slots + 2114 ≤ R.slots) (k : Z l E J R K (cells + 8) (slots + 2114) (ws ++ (zR E 4 7 (fun j => some (zb E + ws.length + 1 + j)) :: List.replicate 7 (zI E 301 (fun _ => 0)))) (pc + 4) L (.ref (zb E + ws.length) :: st)) : Z l E J R K cells slots ws pc L (.int (iI 301) :: .int (iI 7) :: st) := by
  intro p e s m args below meth c C H locs ls hH hS hl
  intro T hT X
  have hAO : (Cond.arrayOver (.array .int)).before args s = true := C.2.2.2.2.2.1.2.2.2.2.2.2
  obtain ⟨cI, kI, cP, hfI, hkI, hkI2⟩ := Cond.arrayClass_spec (C.2.2.2.2.1 _ zw_int)
  obtain ⟨vm₁, cA, hfA, Y, step⟩ := zmk_ins (g := F0 m pc ls (.int (iI 301) :: .int (iI 7) :: st)) X C.1 C.2.2.2.1 (C.2.2.2.2.1 _ hw) hAO hfI hkI hkI2 rfl (by rw [C.2.1]; exact hd) rfl h1 h2
  obtain ⟨f1, f2, f3, f4⟩ := zmF_heap (T.setVm vm₁) cA cI 7
  have X1 := zmF_stand Y cA cI 7
  have hsz : (T.setVm vm₁).heap.size = H.size := by show T.heap.size = _; rw [hT]
  have hsz2 : T.heap.size = H.size := by rw [hT]
  rw [hsz] at f1 f2 f3 f4 X1
  rw [hsz2] at step
  generalize zmF (T.setVm vm₁) cA cI 7 = F at f1 f2 f3 f4 X1 step
  have hcA : zc E 4 = cA := Option.some.inj ((C.2.2.2.2.2.1.1.2 4 _ rfl).2.symm.trans hfA)
  have hcI : zc E 0 = cI := Option.some.inj ((C.2.2.2.2.2.1.1.2 0 _ rfl).2.symm.trans hfI)
  have ho : ∀ q, q < H.size → F.heap[q]? = H[q]? := fun q hq => by rw [f3 q hq]; show T.heap[q]? = _; rw [hT]
  have hout : zmO cA H.size 7 = vp_cell (zc E 4) (7, .inr (.inr (.inr (.inr (fun j => some (zb E + ws.length + 1 + j)))))) := by
    rw [vp_cell_q, hcA]
    unfold zmO arrV
    congr 2
    funext i
    show (if i.val < 7 then Value.ref (H.size + 1 + i.val) else Value.null) = _
    rw [if_pos i.2, hH.1]
    rfl
  have hinn : zmI cI = vp_cell (zc E 0) (301, .inl (fun j => iI 0)) := by
    rw [hcI, vp_cell_i]
    rfl
  have hH2 : zH E (ws ++ (zR E 4 7 (fun j => some (zb E + ws.length + 1 + j)) :: List.replicate 7 (zI E 301 (fun _ => 0)))) F.heap := by
    refine hH.many (by rw [f1]; simp) ho (fun i x hx => ?_)
    cases i with
    | zero =>
      cases hx
      show F.heap[H.size + 0]? = some (vp_cell (zc E 4) (7, .inr (.inr (.inr (.inr (fun j => some (zb E + ws.length + 1 + j)))))))
      rw [Nat.add_zero, f2, hout]
    | succ j =>
      rw [List.getElem?_cons_succ] at hx
      have hj : j < 7 := by
        have := (List.getElem?_eq_some_iff.mp hx).1
        simpa using this
      rw [List.getElem?_replicate, if_pos hj] at hx
      cases hx
      show F.heap[H.size + (j + 1)]? = some (vp_cell (zc E 0) (301, .inl (fun j => iI 0)))
      rw [show H.size + (j + 1) = H.size + 1 + j by omega, f4 j hj, hinn]
  have hS2 := hS.grow (H1 := F.heap) (by omega) ho
  have hS3 : va_S (zA E) s.heap F.heap (locs ++ (List.range 7).map (fun i => ⟨H.size, i⟩)) := by
    refine ⟨hS2.1, hS2.2.1, fun q hq => ?_⟩
    rcases List.mem_append.mp hq with h | h
    · exact hS2.2.2 q h
    · obtain ⟨i, -, rfl⟩ := List.mem_map.mp h
      show zb E ≤ H.size
      rw [hH.1]
      omega
  obtain ⟨t, a1, b1⟩ := k p e s m args below meth c C _ _ ls hH2 hS3 hl F rfl (by
    have hh := X1
    rw [show cells + 1 + 7 = cells + 8 by omega, show slots + 7 + 301 * 7 = slots + 2114 by omega] at hh
    exact hh)
  refine ⟨t, step t ?_, b1⟩
  rw [hH.1]
  exact a1
end BCt
section BCu
variable {l : Launch} {E : zEnv} {J : zM} {R : Room} {K : zK} {cells slots : Nat} {pc : Nat} {L : List (Nat × Value)} {st : List Value} {n : Nat} {sh : Nat → Nat × Nat} {I : Nat → Nat → Int} {P : Nat → Nat → Option Nat}
theorem zw_many {k : Nat} {xs : List va_E} {sh' : Nat → Nat × Nat} {I' : Nat → Nat → Int} {P' : Nat → Nat → Option Nat} (hl : xs.length = k) (ho : ∀ a, a < n → sh' a = sh a ∧ I' a = I a ∧ P' a = P a) (hn : ∀ i, i < k → xs[i]? = some (zcell E sh' I' P' (n + i))) : zw E n sh I P ++ xs = zw E (n + k) sh' I' P' := by
  refine zw_ext (by rw [List.length_append, zw_len, hl]) (fun a ha => ?_)
  by_cases h : a < n
  · rw [List.getElem?_append_left (by rw [zw_len]; exact h), zw_get h]
    obtain ⟨h1, h2, h3⟩ := ho a h
    unfold zcell
    rw [h1, h2, h3]
  · rw [List.getElem?_append_right (by rw [zw_len]; omega), zw_len, hn (a - n) (by omega), show n + (a - n) = a by omega]
theorem y_multi {idx : Nat} (hd : decode J.2.1 pc = .ok (.multianewarray idx 2, 4)) (hw : Cond.classLink J.1.cls idx "[[I" ∈ zwt) (h1 : cells + 8 ≤ R.cells) (h2 : slots + 2114 ≤ R.slots) (k : Z l E J R K (cells + 8) (slots + 2114) (zw E (n + 8) (fun x => if x = n then (5, 7) else if n < x then (1, 301) else sh x) (fun x b => if n ≤ x then 0 else I x b) (fun x b => if x = n then some (n + 1 + b) else if n < x then none else P x b)) (pc + 4) L (.ref (zb E + n) :: st)) : Z l E J R K cells slots (zw E n sh I P) pc L (.int (iI 301) :: .int (iI 7) :: st) := by
  refine z_multi hd hw h1 h2 ?_
  rw [zw_len, zw_many (k := 8) (sh' := fun x => if x = n then (5, 7) else if n < x then (1, 301) else sh x) (I' := fun x b => if n ≤ x then 0 else I x b) (P' := fun x b => if x = n then some (n + 1 + b) else if n < x then none else P x b) rfl (fun a ha => ⟨by show (if a = n then (5, 7) else if n < a then (1, 301) else sh a) = _; rw [if_neg (by omega), if_neg (by omega)], by funext b; show (if n ≤ a then 0 else I a b) = _; rw [if_neg (by omega)], by funext b; show (if a = n then some (n + 1 + b) else if n < a then none else P a b) = _; rw [if_neg (by omega), if_neg (by omega)]⟩) (fun i hi => ?_)]
  · exact k
  · cases i with
    | zero =>
      unfold zcell
      simp only [Nat.add_zero, if_true]
      have ef : (fun j => some (zb E + n + 1 + j)) = fun j => Option.map (fun q => zb E + q) (some (n + 1 + j)) := by
        funext j
        simp [Nat.add_assoc]
      rw [ef]
      rfl
    | succ j =>
      rw [List.getElem?_cons_succ, List.getElem?_replicate, if_pos (by omega)]
      unfold zcell
      have e1 : ¬ n + (j + 1) = n := by omega
      have e2 : n < n + (j + 1) := by omega
      have e3 : n ≤ n + (j + 1) := by omega
      simp only [e1, e2, e3, if_false, if_true]
theorem y_anewa {m : Int} {idx t : Nat} {C0 : String} (hd : decode J.2.1 pc = .ok (.anewarray idx, 3)) (hw : Cond.classLink J.1.cls idx C0 ∈ zwt) (ht : (ztys E)[t + 2]? = some (zc E (t + 2), .object C0)) (ho : ∀ U, zG E U → va_AO C0 U) (hn : 0 ≤ m ∧ m ≤ 134217728) (h1 : cells + 1 ≤ R.cells) (h2 : slots + m.toNat ≤ R.slots) (k : Z l E J R K (cells + 1) (slots + m.toNat) (zw E (n + 1) (zsh sh n (t + 3, m.toNat)) (zcl I n) (zcp P n)) (pc + 3) L (.ref (zb E + n) :: st)) : Z l E J R K cells slots (zw E n sh I P) pc L (.int (iI m) :: st) := by
  refine z_anewa hd hw ht ho hn h1 h2 ?_
  rw [zw_len, zw_push (x := (t + 3, m.toNat)) (by
    unfold zcell
    rw [zsh, if_pos rfl]
    have e1 : zcp P n n = fun _ => none := by funext b; simp [zcp]
    rw [e1]
    rfl)]
  exact k
end BCu
/-! the class as it is made -/
def pF (a b : Nat) : Option Nat := if a = 3 then p3 b else if a = 8 then some (9 + b) else if a = 17 then p17 b else if a = 19 then (if b = 0 then some 20 else none) else if a = 21 then p21 b else none
def iF (a b : Nat) : Int := if a = 3 then (if b = 8 then -1 else if b = 7 then -1 else 0) else if a = 22 then (if b < 100 then 1000 - 10 * (b : Int) else 0) else if a = 23 then (if b < 100 then ((b / 4 : Nat) : Int) else 0) else 0
/-- the cells lo .. hi - 1 are made, those before are as they were -/
def mkd (lo hi : Nat) (sh : Nat → Nat × Nat) (I : Nat → Nat → Int) (P : Nat → Nat → Option Nat) (sh' : Nat → Nat × Nat) (I' : Nat → Nat → Int) (P' : Nat → Nat → Option Nat) : Prop := (∀ x, x < lo → sh' x = sh x ∧ I' x = I x ∧ P' x = P x) ∧ ∀ x, lo ≤ x → x < hi → sh' x = shF x ∧ ∀ b, I' x b = iF x b ∧ P' x b = pF x b
