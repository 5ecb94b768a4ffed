section ZHp
variable {l : Launch} {E : zEnv} {J : zM} {R : Room} {K : zK} {cells slots : Nat} {ws : List va_E} {pc : Nat} {L : List (Nat × Value)} {st : List Value}
/-- a field: class own's pool entry idx is slot k of class number ci -/
def zfld (own : String) (idx ci k : Nat) (fin : Bool) (ty : FieldType) : Prop := ∃ (C : String) (T : u_T) (N : Nat), vwCl[ci]? = some (C, T, N) ∧ k < N ∧ Cond.fieldLink own idx (T k).1 (T k).2.1 (T k).2.2.1 ∈ zwt ∧ (∀ w ∈ u_ws C T N, w ∈ zwt) ∧ (T k).2.2.2 = fin ∧ parseFieldDescriptor (T k).2.2.1 = some ty ∧ (∃ ty0 : Nat → FieldType, ∀ k, k < N → parseFieldDescriptor (T k).2.2.1 = some (ty0 k)) ∧ (∀ a, a < N → ∀ b, b < N → a ≠ b → (T a).2.1 ≠ (T b).2.1) ∧ (T k).1 = C
theorem z_get {idx ci k a : Nat} {fin : Bool} {ty : FieldType} {fs : List Value} {v : Value} (hd : decode J.2.1 pc = .ok (.getfield idx, 3)) (hf : zfld J.1.cls idx ci k fin ty) (hc : ws[a]? = some (zO ci fs)) (hv : fs[k]? = some v) (kk : Z l E J R K cells slots ws (pc + 3) L (v :: st)) : Z l E J R K cells slots ws pc L (.ref (zb E + a) :: st) := by
  intro p e s m args below meth c C H locs ls hH hS hl
  obtain ⟨Cn, T, N, h1, h2, h3, h4, h5, h6, h7, h8, h9⟩ := hf
  exact va_get C.1 C.2.1 C.2.2.2.2.1 h4 C.2.2.2.1 C.2.2.2.2.2.1.1 hH.2 a (zl_at hc) h1 k h2 (C.2.2.2.2.1 _ h3) (fun _ h => h) hv hd (kk p e s m args below meth c C H locs ls hH hS hl)
theorem zH.put {H H1 : Heap} {a : Nat} {e : va_E} (hH : zH E ws H) (hz : H1.size = H.size) (hP : va_P (zD E) vwCl ((zl (zb E) ws).set a (zb E + a, e)) H1) : zH E (ws.set a e) H1 := ⟨by rw [hz, hH.1, List.length_set], by rw [← zl_set]; exact hP⟩
theorem z_put {idx ci k a : Nat} {ty : FieldType} {fs : List Value} {v : Value} (hd : decode J.2.1 pc = .ok (.putfield idx, 3)) (hf : zfld J.1.cls idx ci k false ty) (hc : ws[a]? = some (zO ci fs)) (hn : narrow ty v = v) (hfit : fits ty v = true) (hk : k < fs.length) (kk : Z l E J R K cells slots (ws.set a (zO ci (fs.set k v))) (pc + 3) L st) : Z l E J R K cells slots ws pc L (v :: .ref (zb E + a) :: st) := by
  intro p e s m args below meth c C H locs ls hH hS hl
  obtain ⟨Cn, T, N, h1, h2, h3, h4, h5, h6, ⟨ty0, h7⟩, h8, h9⟩ := hf
  have hap := va_apart (own := J.1.cls) C.2.2.2.2.1 h4 ty0 h7 h8 C.2.2.2.2.2.1.1 h1
  obtain ⟨r, g1, cell, q1, q2, q3, q4⟩ := hH.2 a _ (zl_at hc)
  have hr : r = (Cn, T, N) := Option.some.inj (g1.symm.trans h1)
  subst hr
  obtain ⟨hSl, hfc, kC, hkC, hkind⟩ := C.2.2.2.2.2.1.1.1 ci _ h1
  obtain ⟨cf, kf, fi, f, hi, hsl⟩ := hSl k h2
  have hlay := C.2.2.2.2.1 _ (h4 _ (u_in_lay h2))
  unfold u_lay at hlay
  rw [if_neg (by rw [h5]; decide)] at hlay
  have hst := (u_facts hfc hkC (u_lays C.2.2.2.2.1 h4 h2) hi).1
  have h10 := u_store hfc hkC hkind hlay hi h6 hn hfit
  refine W.putK C.1 C.2.1 (f := f) ⟨C.2.2.2.1, C.2.2.2.2.1 _ h3, ⟨_, _, _, hi⟩, hst⟩ (by rw [q2]; exact h10) q1 q3 (by rw [hsl]; exact k2_hasslot (q4 k h2)) rfl rfl hd fun H' e1 e2 e3 => ?_
  rw [hsl] at e1 ⊢
  exact kk p e s m args below meth c C H' _ ls (hH.put e2 (hH.2.set (zl_D E ws) (zl_at hc) ⟨_, h1, t_OB.to (V := updV (vp_V fs) k v) ⟨_, e1, q2, q3, t_set q4 hap h2 v⟩ (fun j _ => vp_updV_set hk v j)⟩ e3)) (hS.put e2 e3 (by show zb E ≤ zb E + a; omega)) hl
theorem z_putF {idx ci k a : Nat} {ty : FieldType} {fs : List Value} {v : Value} (hd : decode J.2.1 pc = .ok (.putfield idx, 3)) (hf : zfld J.1.cls idx ci k true ty) (hown : vwCl[ci]?.map (fun q => q.1) = some J.1.cls) (hin : J.1.name = "<init>") (hc : ws[a]? = some (zO ci fs)) (hn : narrow ty v = v) (hfit : fits ty v = true) (hk : k < fs.length) (kk : Z l E J R K cells slots (ws.set a (zO ci (fs.set k v))) (pc + 3) L st) : Z l E J R K cells slots ws pc L (v :: .ref (zb E + a) :: st) := by
  intro p e s m args below meth c C H locs ls hH hS hl
  obtain ⟨Cn, T, N, h1, h2, h3, h4, h5, h6, ⟨ty0, h7⟩, h8, h9⟩ := hf
  have hCn : Cn = J.1.cls := by rw [h1] at hown; exact Option.some.inj hown
  have hap := va_apart (own := J.1.cls) C.2.2.2.2.1 h4 ty0 h7 h8 C.2.2.2.2.2.1.1 h1
  obtain ⟨r, g1, cell, q1, q2, q3, q4⟩ := hH.2 a _ (zl_at hc)
  have hr : r = (Cn, T, N) := Option.some.inj (g1.symm.trans h1)
  subst hr
  obtain ⟨hSl, hfc, kC, hkC, hkind⟩ := C.2.2.2.2.2.1.1.1 ci _ h1
  obtain ⟨cf, kf, fi, f, hi, hsl⟩ := hSl k h2
  have hlay := C.2.2.2.2.1 _ (h4 _ (u_in_lay h2))
  unfold u_lay at hlay
  rw [if_pos h5] at hlay
  have hst := (u_facts hfc hkC (u_lays C.2.2.2.2.1 h4 h2) hi).1
  have hcf : m.cls = cf := by
    obtain ⟨_, _, c', _, _, _, -, -, hf', -, -, -, hown2, -⟩ := Cond.laysFinal_spec hlay
    have e1 : c' = cf := by have := hi.symm.trans hf'; simp at this; exact this.1.symm
    rw [h9, hCn] at hown2
    rw [← e1]; exact Option.some.inj (C.2.2.2.1.symm.trans hown2)
  have h10 := u_fits hfc hkC hkind (Or.inr hlay) hi h6 hn hfit
  refine W.putFinK C.1 C.2.1 C.2.2.2.1 (C.2.2.2.2.1 _ h3) hi hst hcf (C.2.2.2.2.2.2.2.2.2.trans hin) (by rw [q2]; exact h10) q1 q3 (by rw [hsl]; exact k2_hasslot (q4 k h2)) rfl rfl hd fun H' e1 e2 e3 => ?_
  rw [hsl] at e1 ⊢
  exact kk p e s m args below meth c C H' _ ls (hH.put e2 (hH.2.set (zl_D E ws) (zl_at hc) ⟨_, h1, t_OB.to (V := updV (vp_V fs) k v) ⟨_, e1, q2, q3, t_set q4 hap h2 v⟩ (fun j _ => vp_updV_set hk v j)⟩ e3)) (hS.put e2 e3 (by show zb E ≤ zb E + a; omega)) hl
/-! arrays -/
theorem z_iaload {a n : Nat} {f : Nat → Int} {i : Int} (hd : decode J.2.1 pc = .ok (.iaload, 1)) (hc : ws[a]? = some (zI E n f)) (hi : 0 ≤ i ∧ i < n) (hn : n ≤ 2147483647) (k : Z l E J R K cells slots ws (pc + 1) L (.int (iI (f i.toNat)) :: st)) : Z l E J R K cells slots ws pc L (.int (iI i) :: .ref (zb E + a) :: st) := by
  intro p e s m args below meth c C H locs ls hH hS hl
  refine va_iald C.1 C.2.1 C.2.2.2.2.2.1.1 hH.2 a 0 (zl_at hc) rfl (iI_in hi (by omega)) hd ?_
  rw [iI_clamp (by omega)]
  exact k p e s m args below meth c C H locs ls hH hS hl
theorem z_iastore {a n : Nat} {f : Nat → Int} {i x : Int} (hd : decode J.2.1 pc = .ok (.iastore, 1)) (hc : ws[a]? = some (zI E n f)) (hi : 0 ≤ i ∧ i < n) (hn : n ≤ 2147483647) (k : Z l E J R K cells slots (ws.set a (zI E n (zu f i.toNat x))) (pc + 1) L st) : Z l E J R K cells slots ws pc L (.int (iI x) :: .int (iI i) :: .ref (zb E + a) :: st) := by
  intro p e s m args below meth c C H locs ls hH hS hl
  have hcl := hH.2 a _ (zl_at hc)
  have hin : vp_in (iI i) n := iI_in hi (by omega)
  refine W.iast C.1 C.2.1 hcl ((C.2.2.2.2.2.1.1.2 0 _ rfl).1 n (fun j => .int (iI (f j)))) (fun q => by cases q) (by show ¬ (iI i < 0 ∨ (arrV _ _ _).slots.size ≤ _); rw [arrV_size]; exact hin) rfl rfl hd fun H1 e1 z oq => ?_
  refine k p e s m args below meth c C H1 _ ls (hH.put z (hH.2.set (zl_D E ws) (zl_at hc) ?_ oq)) (hS.put z oq (by show zb E ≤ zb E + a; omega)) hl
  show H1[zb E + a]? = some (vp_cell _ _)
  rw [e1, vp_cell_i, vp_cell_i, arrV_store, iI_clamp (by omega)]
  congr 2
  funext q
  by_cases hq : q = i.toNat
  · subst hq
    simp [updV, zu]
  · simp [updV, zu, hq]
theorem z_baload {a n : Nat} {f : Nat → Int} {i : Int} (hd : decode J.2.1 pc = .ok (.baload, 1)) (hc : ws[a]? = some (zZ E n f)) (hi : 0 ≤ i ∧ i < n) (hn : n ≤ 2147483647) (k : Z l E J R K cells slots ws (pc + 1) L (.int (iI (f i.toNat)) :: st)) : Z l E J R K cells slots ws pc L (.int (iI i) :: .ref (zb E + a) :: st) := by
  intro p e s m args below meth c C H locs ls hH hS hl
  refine va_zald C.1 C.2.1 C.2.2.2.2.2.1.1 hH.2 a 1 (zl_at hc) rfl (iI_in hi (by omega)) hd ?_
  rw [iI_clamp (by omega)]
  exact k p e s m args below meth c C H locs ls hH hS hl
theorem z_bastore {a n : Nat} {f : Nat → Int} {i x : Int} (hd : decode J.2.1 pc = .ok (.bastore, 1)) (hc : ws[a]? = some (zZ E n f)) (hi : 0 ≤ i ∧ i < n) (hn : n ≤ 2147483647) (hx : x = 0 ∨ x = 1) (k : Z l E J R K cells slots (ws.set a (zZ E n (zu f i.toNat x))) (pc + 1) L st) : Z l E J R K cells slots ws pc L (.int (iI x) :: .int (iI i) :: .ref (zb E + a) :: st) := by
  intro p e s m args below meth c C H locs ls hH hS hl
  have hcl := hH.2 a _ (zl_at hc)
  have hin : vp_in (iI i) n := iI_in hi (by omega)
  have hnx : narrow .boolean (.int (iI x)) = .int (iI x) := by rcases hx with rfl | rfl <;> rfl
  refine W.zast C.1 C.2.1 hcl ((C.2.2.2.2.2.1.1.2 1 _ rfl).1 n (fun j => .int (iI (f j)))) (fun q => by cases q) (by show ¬ (iI i < 0 ∨ (arrV _ _ _).slots.size ≤ _); rw [arrV_size]; exact hin) rfl rfl hd fun H1 e1 z oq => ?_
  refine k p e s m args below meth c C H1 _ ls (hH.put z (hH.2.set (zl_D E ws) (zl_at hc) ?_ oq)) (hS.put z oq (by show zb E ≤ zb E + a; omega)) hl
  show H1[zb E + a]? = some (vp_cell _ _)
  rw [e1, vp_cell_i, vp_cell_i, arrV_store, iI_clamp (by omega)]
  congr 2
  funext q
  by_cases hq : q = i.toNat
  · subst hq
    simp [updV, zu, hnx]
  · simp [updV, zu, hq]
theorem z_aaload {a n t : Nat} {C0 : String} {f : Nat → Option Nat} {i : Int} (hd : decode J.2.1 pc = .ok (.aaload, 1)) (ht : (ztys E)[t]? = some (zc E t, .object C0)) (hc : ws[a]? = some (zR E t n f)) (hi : 0 ≤ i ∧ i < n) (hn : n ≤ 2147483647) (k : Z l E J R K cells slots ws (pc + 1) L (va_rf (f i.toNat) :: st)) : Z l E J R K cells slots ws pc L (.int (iI i) :: .ref (zb E + a) :: st) := by
  intro p e s m args below meth c C H locs ls hH hS hl
  refine va_aldq C.1 C.2.1 C.2.2.2.2.2.1.1 hH.2 a t (zl_at hc) ht (iI_in hi (by omega)) hd ?_
  rw [iI_clamp (by omega)]
  exact k p e s m args below meth c C H locs ls hH hS hl
theorem z_aaload2 {a n : Nat} {f : Nat → Option Nat} {i : Int} (hd : decode J.2.1 pc = .ok (.aaload, 1)) (hc : ws[a]? = some (zR E 4 n f)) (hi : 0 ≤ i ∧ i < n) (hn : n ≤ 2147483647) (k : Z l E J R K cells slots ws (pc + 1) L (va_rf (f i.toNat) :: st)) : Z l E J R K cells slots ws pc L (.int (iI i) :: .ref (zb E + a) :: st) := by
  intro p e s m args below meth c C H locs ls hH hS hl
  have hin : vp_in (iI i) n := iI_in hi (by omega)
  have hlt : (iI i).toNatClampNeg < n := Nat.not_le.mp fun q => hin (Or.inr q)
  refine W.aald (v := va_rf (f (iI i).toNatClampNeg)) (ty := .array .int) C.1 C.2.1 (hH.2 a _ (zl_at hc)) ((C.2.2.2.2.2.1.1.2 4 _ rfl).1 n (fun j => va_rf (f j))) rfl (fun q => by cases q) (by show ¬ (iI i < 0 ∨ (arrV _ _ _).slots.size ≤ _); rw [arrV_size]; exact hin) (by show (arrV _ _ _).slots[_]? = _; rw [arrV_read _ _ hlt]) rfl rfl hd ?_
  rw [iI_clamp (by omega)]
  exact k p e s m args below meth c C H locs ls hH hS hl
theorem z_aastore {a n t v ci : Nat} {r : vw_C} {vs : List Value} {f : Nat → Option Nat} {i : Int} (hd : decode J.2.1 pc = .ok (.aastore, 1)) (ht : (ztys E)[t]? = some (zc E t, .object r.1)) (hr : vwCl[ci]? = some r) (hc : ws[a]? = some (zR E t n f)) (hv : ws[v]? = some (zO ci vs)) (hi : 0 ≤ i ∧ i < n) (hn : n ≤ 2147483647) (k : Z l E J R K cells slots (ws.set a (zR E t n (va_up f i.toNat (some (zb E + v))))) (pc + 1) L st) : Z l E J R K cells slots ws pc L (.ref (zb E + v) :: .int (iI i) :: .ref (zb E + a) :: st) := by
  intro p e s m args below meth c C H locs ls hH hS hl
  have hin : vp_in (iI i) n := iI_in hi (by omega)
  have hlt : (iI i).toNatClampNeg < n := Nat.not_le.mp fun q => hin (Or.inr q)
  have h0 : ¬ iI i < 0 := fun q => hin (Or.inl q)
  obtain ⟨r', hr', cellV, g1, g2, g3, -⟩ := hH.2 v _ (zl_at hv)
  have hcls := (C.2.2.2.2.2.1.1.1 ci r hr).2
  obtain ⟨kA, comp, k1, k2, k3, -⟩ := (C.2.2.2.2.2.1.1.2 t _ ht).2
  have hcomp : comp = (zD E).1 ci := Option.some.inj (k3.symm.trans hcls.1)
  subst hcomp
  obtain ⟨kC, hkC, -⟩ := id hcls.2
  refine W.aast C.1 C.2.1 (hH.2 a _ (zl_at hc)) (fun q h => by cases h) (fun h => by cases h) k1 k2 rfl hkC ⟨h0, by show _ < (arrV _ _ _).slots.size; rw [arrV_size]; exact hlt⟩ g1 (fun q h => by rw [g3] at h; cases h) (by rw [g2]; exact hkC) (by rw [g2]; exact va_assign hcls) rfl rfl hd fun H1 e1 z oq => ?_
  refine k p e s m args below meth c C H1 _ ls (hH.put z (hH.2.set (zl_D E ws) (zl_at hc) ?_ oq)) (hS.put z oq (by show zb E ≤ zb E + a; omega)) hl
  show H1[zb E + a]? = some (vp_cell _ _)
  rw [e1, vp_cell_q, vp_cell_q, arrV_store, iI_clamp (by omega)]
  congr 2
  funext q
  by_cases hq : q = i.toNat
  · subst hq
    simp [updV, va_up, va_rf]
  · simp [updV, va_up, hq]
theorem z_alen {a n : Nat} {f : Nat → Int} (hd : decode J.2.1 pc = .ok (.arraylength, 1)) (hc : ws[a]? = some (zI E n f)) (k : Z l E J R K cells slots ws (pc + 1) L (.int (iI n) :: st)) : Z l E J R K cells slots ws pc L (.ref (zb E + a) :: st) := by
  intro p e s m args below meth c C H locs ls hH hS hl
  exact va_alen (v := iI n) C.1 C.2.1 C.2.2.2.2.2.1.1 hH.2 a 0 (zl_at hc) rfl (by show Int32.ofNat n = Int32.ofInt (n : Int); exact Int32.ofInt_eq_ofNat.symm) hd (k p e s m args below meth c C H locs ls hH hS hl)
/-! the statics, and the script -/
theorem z_gets {idx : Nat} (q : Nat) (hd : decode J.2.1 pc = .ok (.getstatic idx, 3)) (hq : q < 3) (hw : Cond.fieldLink J.1.cls idx RX4 (zsn q) "[I" ∈ zwt) (k : Z l E J R K cells slots ws (pc + 3) L (.ref (zs E q) :: st)) : Z l E J R K cells slots ws pc L st := by
  intro p e s m args below meth c C H locs ls hH hS hl
  exact va_gets C.1 C.2.1 (C.2.2.2.2.2.1.2.2.1 q hq) hS C.2.2.2.1 (C.2.2.2.2.1 _ hw) (fun _ h => h) hd (k p e s m args below meth c C H locs ls hH hS hl)
theorem z_sld {i : Int} (q : Nat) (hd : decode J.2.1 pc = .ok (.iaload, 1)) (hq : q < 4) (hi : 0 ≤ i ∧ i < (zsv E q).1) (hn : i ≤ 2147483647) (k : Z l E J R K cells slots ws (pc + 1) L (.int ((zsv E q).2 i.toNat) :: st)) : Z l E J R K cells slots ws pc L (.int (iI i) :: .ref (zs E q) :: st) := by
  intro p e s m args below meth c C H locs ls hH hS hl
  obtain ⟨⟨hx, hlt⟩, hT⟩ := C.2.2.2.2.2.1.2.1
  have hb := C.2.2.2.2.2.2.1
  rcases (show q = 0 ∨ q = 1 ∨ q = 2 ∨ q = 3 by omega) with rfl | rfl | rfl | rfl
  · exact va_ti C.1 C.2.1 (hT 0 (by decide)) hS (iI_in (n := 7) hi hn) (v := .int ((zsv E 0).2 i.toNat)) (by show Value.int (iI (zsf 0 (iI i).toNatClampNeg)) = _; rw [iI_clamp (by omega)]; rfl) hd (k p e s m args below meth c C H locs ls hH hS hl)
  · exact va_ti C.1 C.2.1 (hT 1 (by decide)) hS (iI_in (n := 7) hi hn) (v := .int ((zsv E 1).2 i.toNat)) (by show Value.int (iI (zsf 1 (iI i).toNatClampNeg)) = _; rw [iI_clamp (by omega)]; rfl) hd (k p e s m args below meth c C H locs ls hH hS hl)
  · exact va_ti C.1 C.2.1 (hT 2 (by decide)) hS (iI_in (n := 7) hi hn) (v := .int ((zsv E 2).2 i.toNat)) (by show Value.int (iI (zsf 2 (iI i).toNatClampNeg)) = _; rw [iI_clamp (by omega)]; rfl) hd (k p e s m args below meth c C H locs ls hH hS hl)
  · refine va_sld C.1 C.2.1 hx (by omega) (by show ¬ zb E ≤ zs E 3; omega) hS (iI_in (n := zxL E) hi hn) hd ?_
    rw [iI_clamp (by omega)]
    exact k p e s m args below meth c C H locs ls hH hS hl
theorem z_slen (q : Nat) (hd : decode J.2.1 pc = .ok (.arraylength, 1)) (hq : q = 3) (k : Z l E J R K cells slots ws (pc + 1) L (.int (iI (zxL E)) :: st)) : Z l E J R K cells slots ws pc L (.ref (zs E q) :: st) := by
  subst hq
  intro p e s m args below meth c C H locs ls hH hS hl
  obtain ⟨⟨hx, hlt⟩, hT⟩ := C.2.2.2.2.2.1.2.1
  have hb := C.2.2.2.2.2.2.1
  refine va_slen C.1 C.2.1 hx (by omega) (by show ¬ zb E ≤ zs E 3; omega) hS hd ?_
  rw [← Int32.ofInt_eq_ofNat]
  exact k p e s m args below meth c C H locs ls hH hS hl
end ZHp
