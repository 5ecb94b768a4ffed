section ZCl
variable {l : Launch} {E : zEnv} {J : zM} {R : Room} {K : zK} {cells slots : Nat} {ws : List va_E} {pc : Nat} {L : List (Nat × Value)} {st : List Value}
theorem zH.push {H H1 : Heap} {x : va_E} (hH : zH E ws H) (hz : H1.size = H.size + 1) (ho : ∀ q, q < H.size → H1[q]? = H[q]?) (hx : va_at (zD E) vwCl (H.size, x) H1) : zH E (ws ++ [x]) H1 := by
  refine ⟨by rw [hz, hH.1, List.length_append, List.length_singleton]; omega, ?_⟩
  rw [zl_push, ← hH.1]
  refine va_P.app (hH.2.kept fun k q hq => ho _ (hH.2 k q hq).lt) (fun k q hk => ?_)
  have h0 : k < 1 := (List.getElem?_eq_some_iff.mp hk).1
  rw [show k = 0 by omega] at hk
  cases hk
  exact hx
theorem va_S.grow {A : Nat → Prop} {H0 H H1 : Heap} {locs : List Loc} (h : va_S A H0 H locs) (hz : H.size ≤ H1.size) (ho : ∀ q, q < H.size → H1[q]? = H[q]?) : va_S A H0 H1 locs := ⟨Nat.le_trans h.1 hz, fun q h1 h2 => (ho q (Nat.lt_of_lt_of_le h1 h.1)).trans (h.2.1 q h1 h2), h.2.2⟩
/-- a class that is made: class own's pool entry idx is class number ci, of N fields, fs at first -/
def zcls (own : String) (idx ci N : Nat) (fs : List Value) : Prop := ∃ (C : String) (T : u_T) (ty : Nat → FieldType), vwCl[ci]? = some (C, T, N) ∧ Cond.classLink own idx C ∈ zwt ∧ Cond.instantiable C N ∈ zwt ∧ Cond.initialized C ∈ zwt ∧ (∀ w ∈ u_ws C T N, w ∈ zwt) ∧ (∀ k, k < N → parseFieldDescriptor (T k).2.2.1 = some (ty k)) ∧ (∀ j, j < N → defaultValue (ty j) = vp_V fs j)
theorem z_new {idx ci N : Nat} {fs : List Value} (hd : decode J.2.1 pc = .ok (.new idx, 3)) (hc : zcls J.1.cls idx ci N fs) (h1 : cells + 1 ≤ R.cells) (h2 : slots + N ≤ R.slots) (k : Z l E J R K (cells + 1) (slots + N) (ws ++ [zO ci fs]) (pc + 3) L (.ref (zb E + ws.length) :: st)) : Z l E J R K cells slots ws pc L st := by
  intro p e s m args below meth c C H locs ls hH hS hl
  obtain ⟨Cn, T, ty, g1, g2, g3, g4, g5, g6, g7⟩ := hc
  have hKn := C.2.2.2.2.2.1.1.1 ci _ g1
  refine W.newcK C.1 C.2.1 C.2.2.2.1 (C.2.2.2.2.1 _ g2) (C.2.2.2.2.1 _ g3) (C.2.2.2.2.1 _ g4) rfl hd h1 h2 hKn.2.1 rfl fun H1 kC hkC e1 z1 o1 => ?_
  have hH1 : zH E (ws ++ [zO ci fs]) H1 := hH.push z1 o1 ⟨_, g1, (u_born ty C.2.2.2.2.1 g5 hKn hkC e1 g6).to g7⟩
  have hk := k p e s m args below meth c C H1 locs ls hH1 (hS.grow (by omega) o1) hl
  rw [← hH.1] at hk
  exact hk
theorem z_newai {n : Int} (hd : decode J.2.1 pc = .ok (.newarray .int, 2)) (hw : Cond.arrayClass .int ∈ zwt) (hn : 0 ≤ n ∧ n ≤ 134217728) (h1 : cells + 1 ≤ R.cells) (h2 : slots + n.toNat ≤ R.slots) (k : Z l E J R K (cells + 1) (slots + n.toNat) (ws ++ [zI E n.toNat (fun _ => 0)]) (pc + 2) L (.ref (zb E + ws.length) :: st)) : Z l E J R K cells slots ws pc L (.int (iI n) :: st) := by
  intro p e s m args below meth c C H locs ls hH hS hl
  refine va_newaK C.1 C.2.1 (atype := .int) (N := n.toNat) (C.2.2.2.2.1 _ hw) rfl hd rfl (fun h => ?_) (iI_clamp (by omega)) (by show n.toNat * 4 ≤ _; omega) h1 h2 rfl fun H1 cA e1 z1 o1 hAr hNm => ?_
  · rw [← iI_0, iI_lt (by omega) (by omega)] at h
    omega
  · have hcA : zc E 0 = cA := Option.some.inj ((C.2.2.2.2.2.1.1.2 0 _ rfl).2.symm.trans hNm)
    have hH1 : zH E (ws ++ [zI E n.toNat (fun _ => 0)]) H1 := hH.push z1 o1 (by
      show H1[H.size]? = some (vp_cell (zc E 0) (n.toNat, .inl (fun j => iI 0)))
      rw [hcA, vp_cell_i]
      exact e1)
    have hk := k p e s m args below meth c C H1 locs ls hH1 (hS.grow (by omega) o1) hl
    rw [← hH.1] at hk
    exact hk
theorem z_newaz {n : Int} (hd : decode J.2.1 pc = .ok (.newarray .boolean, 2)) (hw : Cond.arrayClass .boolean ∈ zwt) (hn : 0 ≤ n ∧ n ≤ 134217728) (h1 : cells + 1 ≤ R.cells) (h2 : slots + n.toNat ≤ R.slots) (k : Z l E J R K (cells + 1) (slots + n.toNat) (ws ++ [zZ E n.toNat (fun _ => 0)]) (pc + 2) L (.ref (zb E + ws.length) :: st)) : Z l E J R K cells slots ws pc L (.int (iI n) :: st) := by
  intro p e s m args below meth c C H locs ls hH hS hl
  refine va_newaK C.1 C.2.1 (atype := .boolean) (N := n.toNat) (C.2.2.2.2.1 _ hw) rfl hd rfl (fun h => ?_) (iI_clamp (by omega)) (by show n.toNat * 1 ≤ _; omega) h1 h2 rfl fun H1 cA e1 z1 o1 hAr hNm => ?_
  · rw [← iI_0, iI_lt (by omega) (by omega)] at h
    omega
  · have hcA : zc E 1 = cA := Option.some.inj ((C.2.2.2.2.2.1.1.2 1 _ rfl).2.symm.trans hNm)
    have hH1 : zH E (ws ++ [zZ E n.toNat (fun _ => 0)]) H1 := hH.push z1 o1 (by
      show H1[H.size]? = some (vp_cell (zc E 1) (n.toNat, .inl (fun j => iI 0)))
      rw [hcA, vp_cell_i]
      exact e1)
    have hk := k p e s m args below meth c C H1 locs ls hH1 (hS.grow (by omega) o1) hl
    rw [← hH.1] at hk
    exact hk
theorem z_anewa {n : Int} {idx t : Nat} {C0 : String} (hd : decode J.2.1 pc = .ok (.anewarray idx, 3)) (hw : Cond.classLink J.1.cls idx C0 ∈ zwt) (ht : (ztys E)[t]? = some (zc E t, .object C0)) (ho : ∀ U, zG E U → va_AO C0 U) (hn : 0 ≤ n ∧ n ≤ 134217728) (h1 : cells + 1 ≤ R.cells) (h2 : slots + n.toNat ≤ R.slots) (k : Z l E J R K (cells + 1) (slots + n.toNat) (ws ++ [zR E t n.toNat (fun _ => none)]) (pc + 3) L (.ref (zb E + ws.length) :: st)) : Z l E J R K cells slots ws pc L (.int (iI n) :: st) := by
  intro p e s m args below meth c C H locs ls hH hS hl
  have hcl : (iI n).toNatClampNeg = n.toNat := iI_clamp (by omega)
  refine W.anew C.1 C.2.1 C.2.2.2.1 (C.2.2.2.2.1 _ hw) (va_AO.use (ho s C.2.2.2.2.2.1)) rfl hd rfl (fun h => ?_) (by rw [hcl]; omega) h1 (by rw [hcl]; exact h2) fun cA kA comp f1 f2 f3 f4 => ?_
  · rw [← iI_0, iI_lt (by omega) (by omega)] at h
    omega
  · rw [hcl]
    generalize hH1 : H.push ({ cls := cA, slots := Array.replicate n.toNat .null, vm := .none } : Cell) = H1
    have z1 : H1.size = H.size + 1 := by rw [← hH1, Array.size_push]
    have e1 : H1[H.size]? = some (arrV cA n.toNat (fun _ => .null)) := by rw [← hH1, Array.getElem?_push_size, ← arrV_new]
    have o1 : ∀ q : Nat, q < H.size → H1[q]? = H[q]? := fun q hq => by rw [← hH1, Array.getElem?_push, if_neg (Nat.ne_of_lt hq)]
    obtain ⟨kA', comp', g1, g2, g3, g4⟩ := (C.2.2.2.2.2.1.1.2 t _ ht).2
    have hcA : zc E t = cA := Option.some.inj (g4.symm.trans f1)
    have hH2 : zH E (ws ++ [zR E t n.toNat (fun _ => none)]) H1 := hH.push z1 o1 (by
      show H1[H.size]? = some (vp_cell (zc E t) (n.toNat, .inr (.inr (.inr (.inr (fun _ => none))))))
      rw [hcA, vp_cell_q]
      exact e1)
    have hk := k p e s m args below meth c C H1 locs ls hH2 (hS.grow (by omega) o1) hl
    rw [← hH.1] at hk
    exact hk
/-! calls -/
theorem zrun {p : Program} {e : Env} {s : State} {m : MethodId} {args : Array Value} {below : List Frame} {meth : Method} {c : Code} {H : Heap} {locs : List Loc} {Q : State → Prop} {ls : Array Slot} {st0 rest : List Value} {mc ms : Nat} {post : Option Value → List va_E → Prop} {a : Array Value}
    (hr : va_Run p l e R s m args below meth c H locs cells slots mc ms (F0 m pc ls st0) rest (zQ E post a) (zA E)) (hS : va_S (zA E) s.heap H locs)
    (kk : ∀ (v : Option Value) (ws' : List va_E) (H1 : Heap) (locs1 : List Loc), post v ws' → zH E ws' H1 → va_S (zA E) s.heap H1 locs1 → W p l e R s m args below meth c H1 locs1 (cells + mc) (slots + ms) Q (F0 m (pc + 3) ls (v.toList ++ rest))) : W p l e R s m args below meth c H locs cells slots Q (F0 m pc ls st0) := by
  intro T hT X
  obtain ⟨v, st₀, t, T', L, h0, X', hL, e1, e2, ⟨⟨v', ws', hv, hp, hh⟩, hz, hk⟩, st⟩ := hr T hT X
  cases hv
  rw [h0] at hz hk
  obtain ⟨t2, a1, b1⟩ := kk v ws' T'.heap (locs ++ L) hp (by rw [e1]; exact hh)
    ⟨Nat.le_trans hS.1 (by rw [e1]; exact hz), fun q h1 h2 => by rw [e1, hk q (Nat.lt_of_lt_of_le h1 hS.1) h2]; exact hS.2.1 q h1 h2, fun q hq => by
      rcases List.mem_append.mp hq with h | h
      · exact hS.2.2 q h
      · exact hL q h⟩ T' rfl X'
  exact ⟨t2, st t2 a1, b1⟩
theorem zblind {av : List Value} {ws2 : List va_E} : FrameBlind (va_Pc av (fun U => zW E ws2 U)) := by
  intro a U g mk h
  obtain ⟨h1, h2, h3, h4, h5, ⟨n1, n2, n3⟩, h6, h7, h8⟩ := h
  have al : U.vm.Alike (U.calling g mk a).vm := Vm.Alike.refl U.vm
  refine ⟨h1, h2, h3.moved al, ⟨⟨h4.1.1.moved al, h4.1.2⟩, fun k hk => (h4.2 k hk).moved al⟩, fun k hk => (h5 k hk).moved al, ⟨n1.same rfl rfl, n2.same rfl rfl, n3.same rfl rfl⟩, h6.moved al, h7.moved al, h8.moved al⟩
theorem zgood {J2 : zM} (hc : Cond.code J2.1 J2.2.1 J2.2.2.1 J2.2.2.2 ∈ zwt) : GoodIn zwt (zws J2) := by
  intro w hw
  rcases List.mem_cons.mp hw with h | h
  · subst h
    exact ⟨hc, good_of_word (zwt_good hc)⟩
  · exact ⟨h, good_of_word (zwt_good h)⟩
/-- a call's words: kind 0 virtual, 1 static, 2 constructor -/
def zcal (kind : Nat) (own : String) (idx : Nat) (J2 : zM) (n : Nat) : Prop :=
  Cond.methodLink own idx J2.1 ∈ zwt ∧ (match kind with | 0 => Cond.instanceMethod J2.1 ∈ zwt ∧ Cond.selects J2.1.cls J2.1 J2.1 ∈ zwt | 1 => Cond.static J2.1 ∈ zwt | _ => Cond.instanceMethod J2.1 ∈ zwt ∧ J2.1.name = "<init>" ∧ J2.2.2.2 = none) ∧ Cond.initialized J2.1.cls ∈ zwt ∧ Cond.code J2.1 J2.2.1 J2.2.2.1 J2.2.2.2 ∈ zwt ∧ J2.1.cls ≠ "java/lang/invoke/MethodHandle" ∧ J2.1.cls ≠ "java/lang/invoke/VarHandle" ∧ (parseMethodDescriptor J2.1.desc).map (fun d => d.parameters.length) = some n
def zfit (R rm : Room) (nL cells slots : Nat) : Prop := (rm.frames + 1 ≤ R.frames ∧ 8 + (nL + 11) + rm.locals ≤ R.locals) ∧ cells + rm.cells ≤ R.cells ∧ slots + rm.slots ≤ R.slots
theorem z_callV {J2 : zM} {rm : Room} {As : List Value} {post : Option Value → List va_E → Prop} {idx n ci a : Nat} {fs : List Value} {st0 : List Value} (hd : decode J.2.1 pc = .ok (.invokevirtual idx, 3)) (hc : zcal 0 J.1.cls idx J2 n) (hM : zC l E J2 rm (.ref (zb E + a) :: As) ws post) (ho : ws[a]? = some (zO ci fs)) (hci : vwCl[ci]?.map (fun q => q.1) = some J2.1.cls) (hn : As.length = n) (hs : As.reverse ++ .ref (zb E + a) :: st = st0) (h8 : (st.map fun v => v.category).sum ≤ 8) (hR : zfit R rm J2.2.2.1 cells slots)
    (kk : ∀ (v : Option Value) (ws' : List va_E), post v ws' → Z l E J R K (cells + rm.cells) (slots + rm.slots) ws' (pc + 3) L (v.toList ++ st)) : Z l E J R K cells slots ws pc L st0 := by
  intro p e s m args below meth c C H locs ls hH hS hl
  obtain ⟨c1, ⟨c2, c3⟩, c4, c5, c6, c7, c8⟩ := hc
  subst hs
  have hts := C.2.2.2.2.1
  have hG := zgood c5
  cases hr : vwCl[ci]? with
  | none => rw [hr] at hci; cases hci
  | some r =>
    rw [hr] at hci
    have hrc : r.1 = J2.1.cls := Option.some.inj hci
    have hrv := va_recv C.2.2.2.2.2.1.1 hH.2 hr (zl_at ho)
    rw [hrc] at hrv
    refine zrun (va_runV (As := As) (rest := st) ⟨C.1, C.2.1, C.2.2.1, C.2.2.2.1, hts⟩ hM ⟨callB_of n hts hG rfl rfl rfl (hts _ c4) (hts _ c1) ⟨c6, c7, c8⟩ hR.1, hts _ c2, hts _ c3⟩ ⟨zblind, hrv, fun U hU hW => ⟨rfl, by rw [hU]; exact hH, C.2.2.2.2.2.1.moved hW C.2.2.2.2.2.2.1 hS hU⟩⟩ rfl hn hl.1 rfl (lv_room h8) hd hR.2) hS (fun v ws' H1 locs1 hp hH1 hS1 => kk v ws' hp p e s m args below meth c C H1 locs1 ls hH1 hS1 hl)
theorem z_callS {J2 : zM} {rm : Room} {As : List Value} {post : Option Value → List va_E → Prop} {idx n : Nat} {st0 : List Value} (hd : decode J.2.1 pc = .ok (.invokestatic idx, 3)) (hc : zcal 1 J.1.cls idx J2 n) (hM : zC l E J2 rm As ws post) (hn : As.length = n) (hs : As.reverse ++ st = st0) (h8 : (st.map fun v => v.category).sum ≤ 8) (hR : zfit R rm J2.2.2.1 cells slots)
    (kk : ∀ (v : Option Value) (ws' : List va_E), post v ws' → Z l E J R K (cells + rm.cells) (slots + rm.slots) ws' (pc + 3) L (v.toList ++ st)) : Z l E J R K cells slots ws pc L st0 := by
  intro p e s m args below meth c C H locs ls hH hS hl
  obtain ⟨c1, c2, c4, c5, c6, c7, c8⟩ := hc
  subst hs
  have hts := C.2.2.2.2.1
  have hG := zgood c5
  refine zrun (va_runS (As := As) (rest := st) ⟨C.1, C.2.1, C.2.2.1, C.2.2.2.1, hts⟩ hM ⟨callB_of n hts hG rfl rfl rfl (hts _ c4) (hts _ c1) ⟨c6, c7, c8⟩ hR.1, hts _ c2⟩ ⟨zblind, fun U hU hW => ⟨rfl, by rw [hU]; exact hH, C.2.2.2.2.2.1.moved hW C.2.2.2.2.2.2.1 hS hU⟩⟩ rfl hn hl.1 rfl (lv_room h8) hd hR.2) hS (fun v ws' H1 locs1 hp hH1 hS1 => kk v ws' hp p e s m args below meth c C H1 locs1 ls hH1 hS1 hl)
theorem z_callI {J2 : zM} {rm : Room} {As : List Value} {post : Option Value → List va_E → Prop} {idx n a : Nat} {st0 : List Value} (hd : decode J.2.1 pc = .ok (.invokespecial idx, 3)) (hc : zcal 2 J.1.cls idx J2 n) (hM : zC l E J2 rm (.ref (zb E + a) :: As) ws post) (hn : As.length = n) (hs : As.reverse ++ .ref (zb E + a) :: st = st0) (h8 : (st.map fun v => v.category).sum ≤ 8) (hR : zfit R rm J2.2.2.1 cells slots)
    (kk : ∀ (v : Option Value) (ws' : List va_E), post v ws' → Z l E J R K (cells + rm.cells) (slots + rm.slots) ws' (pc + 3) L (v.toList ++ st)) : Z l E J R K cells slots ws pc L st0 := by
  intro p e s m args below meth c C H locs ls hH hS hl
  obtain ⟨c1, ⟨c2, c3, c9⟩, c4, c5, c6, c7, c8⟩ := hc
  subst hs
  have hts := C.2.2.2.2.1
  have hG := zgood c5
  rw [c9] at c5
  refine zrun (va_runI (As := As) (rest := st) ⟨C.1, C.2.1, C.2.2.1, C.2.2.2.1, hts⟩ hM ⟨callB_of n hts hG (by rw [zws, c9]) rfl rfl (hts _ c4) (hts _ c1) ⟨c6, c7, c8⟩ hR.1, c3, hts _ c2⟩ ⟨zblind, fun U hU hW => ⟨rfl, by rw [hU]; exact hH, C.2.2.2.2.2.1.moved hW C.2.2.2.2.2.2.1 hS hU⟩⟩ rfl hn hl.1 rfl (lv_room h8) hd hR.2) hS (fun v ws' H1 locs1 hp hH1 hS1 => kk v ws' hp p e s m args below meth c C H1 locs1 ls hH1 hS1 hl)
/-- nest mates -/
def zcaN (kind : Nat) (J2 : zM) (n : Nat) : Prop :=
  (match kind with | 1 => Cond.static J2.1 ∈ zwt | _ => Cond.instanceMethod J2.1 ∈ zwt ∧ J2.1.name = "<init>" ∧ J2.2.2.2 = none) ∧ Cond.initialized J2.1.cls ∈ zwt ∧ Cond.code J2.1 J2.2.1 J2.2.2.1 J2.2.2.2 ∈ zwt ∧ J2.1.cls ≠ "java/lang/invoke/MethodHandle" ∧ J2.1.cls ≠ "java/lang/invoke/VarHandle" ∧ (parseMethodDescriptor J2.1.desc).map (fun d => d.parameters.length) = some n
theorem z_callSN {J2 : zM} {rm : Room} {As : List Value} {post : Option Value → List va_E → Prop} {idx n : Nat} {host : String} {st0 : List Value} (hd : decode J.2.1 pc = .ok (.invokestatic idx, 3)) (hc : zcaN 1 J2 n) (hw : ∀ U, zG E U → va_Nw (.methodLinkNest J.1.cls idx J2.1 host) U) (hM : zC l E J2 rm As ws post) (hn : As.length = n) (hs : As.reverse ++ st = st0) (h8 : (st.map fun v => v.category).sum ≤ 8) (hR : zfit R rm J2.2.2.1 cells slots)
    (kk : ∀ (v : Option Value) (ws' : List va_E), post v ws' → Z l E J R K (cells + rm.cells) (slots + rm.slots) ws' (pc + 3) L (v.toList ++ st)) : Z l E J R K cells slots ws pc L st0 := by
  intro p e s m args below meth c C H locs ls hH hS hl
  obtain ⟨c2, c4, c5, c6, c7, c8⟩ := hc
  subst hs
  have hts := C.2.2.2.2.1
  have hG := zgood c5
  refine zrun (va_runSN (As := As) (rest := st) ⟨C.1, C.2.1, C.2.2.1, C.2.2.2.1, hts⟩ hM ⟨va_cnB n hts hG rfl rfl rfl (hw s C.2.2.2.2.2.1) (hts _ c4) ⟨c6, c7, c8⟩ hR.1, hts _ c2, trivial⟩ ⟨zblind, fun U hU hW => ⟨rfl, by rw [hU]; exact hH, C.2.2.2.2.2.1.moved hW C.2.2.2.2.2.2.1 hS hU⟩⟩ rfl hn hl.1 rfl (lv_room h8) hd hR.2) hS (fun v ws' H1 locs1 hp hH1 hS1 => kk v ws' hp p e s m args below meth c C H1 locs1 ls hH1 hS1 hl)
theorem z_callIN {J2 : zM} {rm : Room} {As : List Value} {post : Option Value → List va_E → Prop} {idx n a : Nat} {host : String} {st0 : List Value} (hd : decode J.2.1 pc = .ok (.invokespecial idx, 3)) (hc : zcaN 2 J2 n) (hw : ∀ U, zG E U → va_Nw (.methodLinkNest J.1.cls idx J2.1 host) U) (hM : zC l E J2 rm (.ref (zb E + a) :: As) ws post) (hn : As.length = n) (hs : As.reverse ++ .ref (zb E + a) :: st = st0) (h8 : (st.map fun v => v.category).sum ≤ 8) (hR : zfit R rm J2.2.2.1 cells slots)
    (kk : ∀ (v : Option Value) (ws' : List va_E), post v ws' → Z l E J R K (cells + rm.cells) (slots + rm.slots) ws' (pc + 3) L (v.toList ++ st)) : Z l E J R K cells slots ws pc L st0 := by
  intro p e s m args below meth c C H locs ls hH hS hl
  obtain ⟨⟨c2, c3, c9⟩, c4, c5, c6, c7, c8⟩ := hc
  subst hs
  have hts := C.2.2.2.2.1
  have hG := zgood c5
  refine zrun (va_runIN (As := As) (rest := st) ⟨C.1, C.2.1, C.2.2.1, C.2.2.2.1, hts⟩ hM ⟨va_cnB n hts hG (by rw [zws, c9]) rfl rfl (hw s C.2.2.2.2.2.1) (hts _ c4) ⟨c6, c7, c8⟩ hR.1, c3, hts _ c2⟩ ⟨zblind, fun U hU hW => ⟨rfl, by rw [hU]; exact hH, C.2.2.2.2.2.1.moved hW C.2.2.2.2.2.2.1 hS hU⟩⟩ rfl hn hl.1 rfl (lv_room h8) hd hR.2) hS (fun v ws' H1 locs1 hp hH1 hS1 => kk v ws' hp p e s m args below meth c C H1 locs1 ls hH1 hS1 hl)
theorem z_objInit {idx a : Nat} (hd : decode J.2.1 pc = .ok (.invokespecial idx, 3)) (h1 : Cond.methodLink J.1.cls idx objectInit ∈ zwt) (h2 : Cond.instanceMethod objectInit ∈ zwt) (h3 : Cond.code objectInit ⟨#[0xb1]⟩ 1 none ∈ zwt) (hf : 1 ≤ R.frames) (hl0 : (st.map fun v => v.category).sum + 12 ≤ R.locals) (k : Z l E J R K cells slots ws (pc + 3) L st) : Z l E J R K cells slots ws pc L (.ref a :: st) := by
  intro p e s m args below meth c C H locs ls hH hS hl
  refine W.objInit C.1 C.2.1 C.2.2.2.1 (C.2.2.2.2.1 _ h1) (C.2.2.2.2.1 _ h2) (C.2.2.2.2.1 _ h3) rfl (by rw [C.2.2.1]; exact hl.1) rfl hd hf (by show 2 * 0 + _ + 12 ≤ _; omega) ?_
  exact k p e s m args below meth c C H locs ls hH hS hl
def zmath (own : String) (idx : Nat) (y : MethodName) (cc : ByteArray) (n : Nat) (t : FieldType) : Prop := Cond.methodLink own idx y ∈ zwt ∧ Cond.static y ∈ zwt ∧ Cond.initialized "java/lang/Math" ∈ zwt ∧ Cond.code y cc n (some t) ∈ zwt
theorem z_max {idx : Nat} {a b : Int} (hd : decode J.2.1 pc = .ok (.invokestatic idx, 3)) (hw : zmath J.1.cls idx Lib.Math.max.name Lib.Math.max.code 2 .int) (ha : -2147483648 ≤ a ∧ a ≤ 2147483647) (hb : -2147483648 ≤ b ∧ b ≤ 2147483647) (hf : 1 ≤ R.frames) (hl0 : (st.map fun v => v.category).sum + 13 ≤ R.locals) (hc : cells ≤ R.cells) (hs : slots ≤ R.slots) (k : Z l E J R K cells slots ws (pc + 3) L (.int (iI (max a b)) :: st)) : Z l E J R K cells slots ws pc L (.int (iI b) :: .int (iI a) :: st) := by
  intro p e s m args below meth c C H locs ls hH hS hl
  refine va_mmax C.1 C.2.1 (C.2.2.1.trans hl.1.symm) C.2.2.2.1 (C.2.2.2.2.1 _ hw.1) (C.2.2.2.2.1 _ hw.2.1) (C.2.2.2.2.1 _ hw.2.2.1) (C.2.2.2.2.1 _ hw.2.2.2) hf hl0 hc hs hd ?_
  have e1 : (if iI a < iI b then iI b else iI a) = iI (max a b) := by
    by_cases h : a < b
    · rw [if_pos ((iI_lt ha hb).mpr h), Int.max_eq_right (by omega)]
    · rw [if_neg (fun q => h ((iI_lt ha hb).mp q)), Int.max_eq_left (by omega)]
  rw [e1]
  exact k p e s m args below meth c C H locs ls hH hS hl
theorem z_min {idx : Nat} {a b : Int} (hd : decode J.2.1 pc = .ok (.invokestatic idx, 3)) (hw : zmath J.1.cls idx Lib.Math.min.name Lib.Math.min.code 2 .int) (ha : -2147483648 ≤ a ∧ a ≤ 2147483647) (hb : -2147483648 ≤ b ∧ b ≤ 2147483647) (hf : 1 ≤ R.frames) (hl0 : (st.map fun v => v.category).sum + 13 ≤ R.locals) (hc : cells ≤ R.cells) (hs : slots ≤ R.slots) (k : Z l E J R K cells slots ws (pc + 3) L (.int (iI (min a b)) :: st)) : Z l E J R K cells slots ws pc L (.int (iI b) :: .int (iI a) :: st) := by
  intro p e s m args below meth c C H locs ls hH hS hl
  refine va_mmin C.1 C.2.1 (C.2.2.1.trans hl.1.symm) C.2.2.2.1 (C.2.2.2.2.1 _ hw.1) (C.2.2.2.2.1 _ hw.2.1) (C.2.2.2.2.1 _ hw.2.2.1) (C.2.2.2.2.1 _ hw.2.2.2) hf hl0 hc hs hd ?_
  have e1 : (if iI b < iI a then iI b else iI a) = iI (min a b) := by
    by_cases h : b < a
    · rw [if_pos ((iI_lt hb ha).mpr h), Int.min_eq_right (by omega)]
    · rw [if_neg (fun q => h ((iI_lt hb ha).mp q)), Int.min_eq_left (by omega)]
  rw [e1]
  exact k p e s m args below meth c C H locs ls hH hS hl
theorem z_absL {idx : Nat} {x : Int64} (hd : decode J.2.1 pc = .ok (.invokestatic idx, 3)) (hw : zmath J.1.cls idx Lib.MathLoose.abs_long.x Lib.MathLoose.abs_long.code 2 .long) (hf : 1 ≤ R.frames) (hl0 : (st.map fun v => v.category).sum + 13 ≤ R.locals) (hc : cells ≤ R.cells) (hs : slots ≤ R.slots) (k : Z l E J R K cells slots ws (pc + 3) L (.long (if 0 < x then x else -x) :: st)) : Z l E J R K cells slots ws pc L (.long x :: st) := by
  intro p e s m args below meth c C H locs ls hH hS hl
  exact va_mabs_long C.1 C.2.1 (C.2.2.1.trans hl.1.symm) C.2.2.2.1 (C.2.2.2.2.1 _ hw.1) (C.2.2.2.2.1 _ hw.2.1) (C.2.2.2.2.1 _ hw.2.2.1) (C.2.2.2.2.1 _ hw.2.2.2) hf hl0 hc hs hd (k p e s m args below meth c C H locs ls hH hS hl)
theorem z_maxL {idx : Nat} {x y : Int64} (hd : decode J.2.1 pc = .ok (.invokestatic idx, 3)) (hw : zmath J.1.cls idx Lib.MathLoose.max_long.x Lib.MathLoose.max_long.code 4 .long) (hf : 1 ≤ R.frames) (hl0 : (st.map fun v => v.category).sum + 15 ≤ R.locals) (hc : cells ≤ R.cells) (hs : slots ≤ R.slots) (k : Z l E J R K cells slots ws (pc + 3) L (.long (if y < x then x else y) :: st)) : Z l E J R K cells slots ws pc L (.long y :: .long x :: st) := by
  intro p e s m args below meth c C H locs ls hH hS hl
  exact va_mmax_long C.1 C.2.1 (C.2.2.1.trans hl.1.symm) C.2.2.2.1 (C.2.2.2.2.1 _ hw.1) (C.2.2.2.2.1 _ hw.2.1) (C.2.2.2.2.1 _ hw.2.2.1) (C.2.2.2.2.1 _ hw.2.2.2) hf hl0 hc hs hd (k p e s m args below meth c C H locs ls hH hS hl)
end ZCl
