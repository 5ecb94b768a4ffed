/-- what the word of int[][] gives -/
theorem zAO_spec {A : Array Value} {s : State} (h : (Cond.arrayOver (.array .int)).before A s = true) : ∃ (cI cA : ClassId) (k : Class), s.vm.findClass (FieldType.array .int).toString = some cI ∧ (s.vm.classes.findIdx? fun (x : Class) => match x.kind with | .array component _ => component == cI | _ => false) = some cA ∧ s.vm.classes[cA]? = some k ∧ k.kind = .array cI (.array .int) ∧ s.vm.findClass ("[" ++ (FieldType.array .int).toString) = some cA := by
  simp only [Cond.before, Cond.holds, Cond.value, beq_iff_eq, Option.bind_eq_some_iff, Option.map_eq_some_iff] at h
  obtain ⟨cI, h1, cA, h2, k, h3, h4⟩ := h
  have h5 := (Array.findIdx?_eq_some_iff_getElem.mp h2)
  obtain ⟨lt, h6, -⟩ := h5
  have h7 : s.vm.classes[cA] = k := Option.some.inj ((Array.getElem?_eq_getElem lt).symm.trans h3)
  rw [h7] at h6
  refine ⟨cI, cA, k, h1, h2, h3, ?_⟩
  cases hk : k.kind with
  | array c0 t0 =>
    rw [hk] at h4 h6
    have h8 := (Bool.and_eq_true _ _).mp h4
    exact ⟨by rw [eq_of_beq h6, of_decide_eq_true h8.1], of_decide_eq_true h8.2⟩
  | _ => rw [hk] at h4; cases h4
/-! new int[7][301]: the outer row first, then a row and its place, seven times -/
def zmO (cA : ClassId) (a j : Nat) : Cell := arrV cA 7 (fun i => if i < j then .ref (a + 1 + i) else .null)
def zmI (cI : ClassId) : Cell := arrV cI 301 (fun _ => .int 0)
def zmF (T : State) (cA cI : ClassId) : Nat → State
  | 0 => T.pushCell (zmO cA T.heap.size 0)
  | j + 1 => ((zmF T cA cI j).pushCell (zmI cI)).setCell T.heap.size (zmO cA T.heap.size (j + 1))
theorem zmO_put (cA : ClassId) (a j : Nat) : (zmO cA a j).setSlot j (.ref (a + 1 + j)) = zmO cA a (j + 1) := by
  unfold zmO
  rw [arrV_store]
  congr 1
  funext i
  by_cases h : i = j
  · subst h
    simp [updV]
  · simp only [updV, if_neg h]
    by_cases h2 : i < j
    · rw [if_pos h2, if_pos (by omega)]
    · rw [if_neg h2, if_neg (by omega)]
theorem zmF_heap (T : State) (cA cI : ClassId) : ∀ j, (zmF T cA cI j).heap.size = T.heap.size + 1 + j ∧ (zmF T cA cI j).heap[T.heap.size]? = some (zmO cA T.heap.size j) ∧ (∀ q, q < T.heap.size → (zmF T cA cI j).heap[q]? = T.heap[q]?) ∧ ∀ i, i < j → (zmF T cA cI j).heap[T.heap.size + 1 + i]? = some (zmI cI)
  | 0 => by
    refine ⟨?_, ?_, fun q hq => ?_, fun i hi => absurd hi (Nat.not_lt_zero _)⟩
    · show (T.heap.push _).size = _
      rw [Array.size_push]
    · show (T.heap.push _)[T.heap.size]? = _
      rw [Array.getElem?_push_size]
    · show (T.heap.push _)[q]? = _
      rw [Array.getElem?_push, if_neg (by omega)]
  | j + 1 => by
    obtain ⟨h1, h2, h3, h4⟩ := zmF_heap T cA cI j
    have e : (zmF T cA cI (j + 1)).heap = ((zmF T cA cI j).heap.push (zmI cI)).setIfInBounds T.heap.size (zmO cA T.heap.size (j + 1)) := rfl
    rw [e]
    refine ⟨?_, ?_, fun q hq => ?_, fun i hi => ?_⟩
    · rw [Array.size_setIfInBounds, Array.size_push, h1]
      omega
    · rw [Array.getElem?_setIfInBounds_self_of_lt (by rw [Array.size_push, h1]; omega)]
    · rw [Array.getElem?_setIfInBounds_ne (by omega), Array.getElem?_push, if_neg (by omega), h3 q hq]
    · rw [Array.getElem?_setIfInBounds_ne (by omega), Array.getElem?_push, h1]
      by_cases hq : i = j
      · rw [hq, if_pos rfl]
      · rw [if_neg (by omega), h4 i (by omega)]
section ZMu
variable {p : Program} {l : Launch} {e : Env} {R : Room} {s : State} {m : MethodId} {args : Array Value} {below : List Frame} {meth : Method} {c : Code} {T : State} {locs : List Loc} {cells slots : Nat}
theorem zmF_stand (X : Stand p l e R s m args below meth c T locs cells slots) (cA cI : ClassId) : ∀ j, Stand p l e R s m args below meth c (zmF T cA cI j) (locs ++ (List.range j).map (fun i => ⟨T.heap.size, i⟩)) (cells + 1 + j) (slots + 7 + 301 * j)
  | 0 => by
    have h := X.pushed (zmO cA T.heap.size 0)
    rw [show (zmO cA T.heap.size 0).slots.size = 7 from arrV_size _ _ _] at h
    rw [List.range_zero, List.map_nil, List.append_nil]
    exact h
  | j + 1 => by
    obtain ⟨h1, h2, -, -⟩ := zmF_heap T cA cI j
    have h := (zmF_stand X cA cI j).pushed (zmI cI)
    rw [show (zmI cI).slots.size = 301 from arrV_size _ _ _] at h
    have hc : ((zmF T cA cI j).pushCell (zmI cI)).heap[T.heap.size]? = some (zmO cA T.heap.size j) := by
      show ((zmF T cA cI j).heap.push _)[_]? = _
      rw [Array.getElem?_push, if_neg (by omega), h2]
    have h3 := h.stored hc j (.ref (T.heap.size + 1 + j))
    rw [zmO_put] at h3
    rw [List.range_succ, List.map_append, ← List.append_assoc]
    have e1 : cells + 1 + (j + 1) = cells + 1 + j + 1 := by omega
    have e2 : slots + 7 + 301 * (j + 1) = slots + 7 + 301 * j + 301 := by omega
    rw [e1, e2]
    exact h3
/-- a row of 301, made -/
theorem zmk_in {E : CtlPost} {d : Bool} {acts : List Action} {U : State} {cI cP : ClassId} {kI : Class} {Q : Addr → Pre} (hk : U.vm.classes[cI]? = some kI) (hkind : kI.kind = .array cP .int) (hl1 : 301 ≤ e.platform.arrayLengthLimit) (hl2 : 301 * 4 ≤ e.platform.maxHeapBytes) (hcs : U.heap.size < e.platform.maxCells) (hss : U.slotsUsed + 301 ≤ e.platform.maxSlots) (hq : ∀ acts', Q U.heap.size d acts' (U.pushCell (zmI cI))) : wp (Op.multianewarray.make cI [iI 301]) Q E e d acts U := by
  have h0 : ¬ iI 301 < 0 := by decide
  rw [Op.multianewarray.make]
  simp only [wp_bind', W.ite, h0, if_false, wp_pure', W.theClass, hk, Option.some.injEq, exists_eq_left', hkind]
  refine W.newArray_of hk hkind (by rw [show (iI 301).toNatClampNeg = 301 from rfl]; omega) (by rw [show (iI 301).toNatClampNeg = 301 from rfl, show componentBytes .int = 4 from rfl]; omega) hcs (by rw [show (iI 301).toNatClampNeg = 301 from rfl]; exact hss) rfl (fun acts' => ?_)
  have := hq acts'
  rw [zmI, ← arrV_new] at this
  exact this
/-- the seven rows -/
theorem zmk_out {E : CtlPost} {d : Bool} {acts : List Action} {g : JFrame} {cA cI cP : ClassId} {kA kI : Class} {Q : Addr → Pre} (X : Stand p l e R s m args below meth c T locs cells slots) (hkA : s.vm.classes[cA]? = some kA) (hkA2 : kA.kind = .array cI (.array .int)) (hkI : s.vm.classes[cI]? = some kI) (hkI2 : kI.kind = .array cP .int) (hcs : cells + 8 ≤ R.cells) (hss : slots + 2114 ≤ R.slots) (hq : ∀ d' acts', Q T.heap.size d' acts' ((zmF T cA cI 7).setTop g)) : wp (Op.multianewarray.make cA [iI 7, iI 301]) Q E e d acts (T.setTop g) := by
  have h0 : ¬ iI 7 < 0 := by decide
  have h7 : (iI 7 == 0) = false := by decide
  have e7 : (iI 7).toNatClampNeg = 7 := rfl
  have lim := Launch.admits_arrayLengthLimit X.admits
  have lim2 := Launch.admits_maxHeapBytes X.admits
  have tabs : ∀ {U : State} {lo : List Loc} {cs ss : Nat}, Stand p l e R s m args below meth c U lo cs ss → (∃ k, U.vm.classes[cA]? = some k ∧ k.kind = .array cI (.array .int)) ∧ ∃ k, U.vm.classes[cI]? = some k ∧ k.kind = .array cP .int := by
    intro U lo cs ss Y
    obtain ⟨k1, a1, b1⟩ := Y.warmed.alike.2.2 _ _ hkA
    obtain ⟨k2, a2, b2⟩ := Y.warmed.alike.2.2 _ _ hkI
    exact ⟨⟨k1, a1, by rw [b1]; exact hkA2⟩, ⟨k2, a2, by rw [b2]; exact hkI2⟩⟩
  obtain ⟨⟨k1, a1, b1⟩, -⟩ := tabs X
  obtain ⟨r1, r2⟩ := X.roomAbove (a := 8) (b := 2114) hcs hss
  rw [Op.multianewarray.make]
  simp only [wp_bind', W.ite, h0, if_false, wp_pure', W.theClass, State.vm_setTop, a1, Option.some.injEq, exists_eq_left', b1, e7]
  refine W.newArray_of (s := T.setTop g) a1 b1 (by rw [lim]; decide) (by rw [lim2]; decide) (by show T.heap.size < _; omega) (by show T.slotsUsed + 7 ≤ _; omega) rfl (fun acts1 => ?_)
  have e0 : (T.setTop g).pushCell { cls := cA, slots := Array.replicate 7 .null } = (zmF T cA cI 0).setTop g := by
    rw [State.pushCell_setTop]
    show (T.pushCell _).setTop g = (T.pushCell (zmO cA T.heap.size 0)).setTop g
    congr 2
  rw [e0]
  simp only [h7, Bool.false_eq_true, if_false, wp_pure', wp_bind', Std.Legacy.Range.forIn_eq_forIn_range', State.heap_setTop]
  rw [show [:7].size = 7 from rfl]
  refine wp_forIn_inv (fun rest U => ∃ j, j ≤ 7 ∧ rest = List.range' j (7 - j) ∧ U = (zmF T cA cI j).setTop g) _ _ ⟨0, by decide, rfl, rfl⟩ ?_ ?_
  · intro x rest U d1 acts2 Q1 hI hQ1
    obtain ⟨j, hj, hr, rfl⟩ := hI
    have hj7 : j < 7 := by
      rcases Nat.lt_or_ge j 7 with h | h
      · exact h
      · rw [show 7 - j = 0 by omega] at hr
        cases hr
    rw [show 7 - j = (7 - (j + 1)) + 1 by omega, List.range'_succ, List.cons.injEq] at hr
    obtain ⟨rfl, hr⟩ := hr
    have Y := zmF_stand X cA cI x
    obtain ⟨z1, z2, z3, z4⟩ := zmF_heap T cA cI x
    obtain ⟨⟨kO, q1, q2⟩, ⟨kR, q3, q4⟩⟩ := tabs Y
    obtain ⟨y1, y2⟩ := Y.roomAbove (a := 1) (b := 301) (by omega) (by omega)
    simp only [wp_bind', wp_pure']
    refine zmk_in (kI := kR) q3 q4 (by omega) (by omega) (by show (zmF T cA cI x).heap.size < _; omega) (by show (zmF T cA cI x).slotsUsed + 301 ≤ _; exact y2) (fun acts3 => ?_)
    have hc : ((zmF T cA cI x).pushCell (zmI cI)).heap[T.heap.size]? = some (zmO cA T.heap.size x) := by
      show ((zmF T cA cI x).heap.push _)[_]? = _
      rw [Array.getElem?_push, if_neg (by omega), z2]
    rw [State.pushCell_setTop, wp_bind', W.writeLoc]
    simp only [wp_pure']
    refine ⟨zmO cA T.heap.size x, hc, (by intro h; cases h), by rw [show (zmO cA T.heap.size x).slots.size = 7 from arrV_size _ _ _]; exact hj7, ?_, ?_⟩
    · show State.fitsSlot _ cA .none _ _ = true
      simp [State.fitsSlot, State.slotType?, q1, q2]
      rfl
    · rw [State.heap_setTop, z1, zmO_put]
      exact hQ1 _ _ _ ⟨x + 1, by omega, hr, rfl⟩
  · intro U d1 acts2 hI
    obtain ⟨j, hj, hr, rfl⟩ := hI
    have : j = 7 := by
      rcases Nat.lt_or_ge j 7 with h | h
      · rw [show 7 - j = (7 - (j + 1)) + 1 by omega, List.range'_succ] at hr
        cases hr
      · omega
    subst this
    exact hq _ _
/-- the instruction -/
theorem zmk_ins {g : JFrame} {idx : Nat} {own : String} {cP : ClassId} {kI : Class} {cI : ClassId} {st : List Value} (X : Stand p l e R s m args below meth c T locs cells slots) (hexec : p.tables.exec = Jvm.exec) (hown : s.vm.findClass own = some m.cls) (hlk : (Cond.classLink own idx "[[I").before args s = true) (hAO : (Cond.arrayOver (.array .int)).before args s = true) (hfI : s.vm.findClass "[I" = some cI) (hkI : s.vm.classes[cI]? = some kI) (hkI2 : kI.kind = .array cP .int) (hg : g.method = m) (hd : decode c.code g.pc = .ok (.multianewarray idx 2, 4)) (hst : g.stack = .int (iI 301) :: .int (iI 7) :: st) (hcs : cells + 8 ≤ R.cells) (hss : slots + 2114 ≤ R.slots) : ∃ (vm₁ : Vm) (cA : ClassId), s.vm.findClass "[[I" = some cA ∧ Stand p l e R s m args below meth c (T.setVm vm₁) locs cells slots ∧ ∀ tg, Steps p.tables e below ((zmF (T.setVm vm₁) cA cI 7).setTop { g with pc := g.pc + 4, stack := .ref T.heap.size :: st }) tg → Steps p.tables e below (T.setTop g) tg := by
  subst hg
  obtain ⟨cI', cA, kA, f1, -, f3, f4, f5⟩ := zAO_spec hAO
  have f1' : s.vm.findClass "[I" = some cI' := f1
  have f5' : s.vm.findClass "[[I" = some cA := f5
  cases f1'.symm.trans hfI
  obtain ⟨cc, hc, hL⟩ := Cond.classLink_spec hown hlk e.platform (by rw [X.admits.platform])
  cases hc.symm.trans f5'
  obtain ⟨w1, w2, w3⟩ := State.classEntry (e := e) X.warmed hL
  have Y := X.noted w2
  refine ⟨_, _, f5', Y, fun tg ht => ?_⟩
  refine Steps.instr (c := c) X.here ?_
  rw [hd]
  show wpRun (p.tables.exec (.multianewarray idx 2)) _ _ e (T.setTop g)
  rw [hexec]
  show wp (Op.multianewarray.sem idx 2) _ _ e false [] (T.setTop g)
  rw [Op.multianewarray.sem, wp_bind', W.resolveClassAt_transfer (s := T.setTop g) (State.method?_setTop g X.here.top) w1 w3, State.setVm_setTop]
  have hm : ((T.setVm (T.vm.noted g.method.cls idx (.cls cA))).setTop g).method? = some g.method := State.method?_setTop g Y.here.top
  rw [W.resolveClassAt_ready hm w3, wp_bind']
  refine (popN_top (args := [.int (iI 7), .int (iI 301)]) (rest := st) Y.here.top (by rw [hst]; rfl)).mpr ?_
  simp only [List.mapM_cons, List.mapM_nil, wp_bind', wp_pure', W.mark, W.pushRef]
  refine zmk_out Y f3 f4 hkI hkI2 hcs hss (fun d' acts' => ?_)
  have Y7 := zmF_stand Y cA cI 7
  refine ⟨_, State.topJava?_setTop' _ Y7.here.top, fun acts'' => ?_⟩
  rw [State.setTop_setTop, afterInstr_ok]
  exact ht
end ZMu
